theorem dX4_init_0 : decode cX4_init 0 = .ok (.aload_n 0, 1) := by decide +kernel
theorem dX4_init_1 : decode cX4_init 1 = .ok (.invokespecial 1, 3) := by decide +kernel
theorem dX4_init_4 : decode cX4_init 4 = .ok (.aload_n 0, 1) := by decide +kernel
theorem dX4_init_5 : decode cX4_init 5 = .ok (.iconst 1, 1) := by decide +kernel
theorem dX4_init_6 : decode cX4_init 6 = .ok (.putfield 7, 3) := by decide +kernel
theorem dX4_init_9 : decode cX4_init 9 = .ok (.aload_n 0, 1) := by decide +kernel
theorem dX4_init_10 : decode cX4_init 10 = .ok (.iconst 5, 1) := by decide +kernel
theorem dX4_init_11 : decode cX4_init 11 = .ok (.newarray .int, 2) := by decide +kernel
theorem dX4_init_13 : decode cX4_init 13 = .ok (.dup, 1) := by decide +kernel
theorem dX4_init_14 : decode cX4_init 14 = .ok (.iconst 0, 1) := by decide +kernel
theorem dX4_init_15 : decode cX4_init 15 = .ok (.bipush (-18), 2) := by decide +kernel
theorem dX4_init_17 : decode cX4_init 17 = .ok (.iastore, 1) := by decide +kernel
theorem dX4_init_18 : decode cX4_init 18 = .ok (.dup, 1) := by decide +kernel
theorem dX4_init_19 : decode cX4_init 19 = .ok (.iconst 1, 1) := by decide +kernel
theorem dX4_init_20 : decode cX4_init 20 = .ok (.bipush (-18), 2) := by decide +kernel
theorem dX4_init_22 : decode cX4_init 22 = .ok (.iastore, 1) := by decide +kernel
theorem dX4_init_23 : decode cX4_init 23 = .ok (.dup, 1) := by decide +kernel
theorem dX4_init_24 : decode cX4_init 24 = .ok (.iconst 2, 1) := by decide +kernel
theorem dX4_init_25 : decode cX4_init 25 = .ok (.bipush (-18), 2) := by decide +kernel
theorem dX4_init_27 : decode cX4_init 27 = .ok (.iastore, 1) := by decide +kernel
theorem dX4_init_28 : decode cX4_init 28 = .ok (.dup, 1) := by decide +kernel
theorem dX4_init_29 : decode cX4_init 29 = .ok (.iconst 3, 1) := by decide +kernel
theorem dX4_init_30 : decode cX4_init 30 = .ok (.bipush (-18), 2) := by decide +kernel
theorem dX4_init_32 : decode cX4_init 32 = .ok (.iastore, 1) := by decide +kernel
theorem dX4_init_33 : decode cX4_init 33 = .ok (.dup, 1) := by decide +kernel
theorem dX4_init_34 : decode cX4_init 34 = .ok (.iconst 4, 1) := by decide +kernel
theorem dX4_init_35 : decode cX4_init 35 = .ok (.bipush (-18), 2) := by decide +kernel
theorem dX4_init_37 : decode cX4_init 37 = .ok (.iastore, 1) := by decide +kernel
theorem dX4_init_38 : decode cX4_init 38 = .ok (.putfield 13, 3) := by decide +kernel
theorem dX4_init_41 : decode cX4_init 41 = .ok (.aload_n 0, 1) := by decide +kernel
theorem dX4_init_42 : decode cX4_init 42 = .ok (.iconst 5, 1) := by decide +kernel
theorem dX4_init_43 : decode cX4_init 43 = .ok (.newarray .int, 2) := by decide +kernel
theorem dX4_init_45 : decode cX4_init 45 = .ok (.dup, 1) := by decide +kernel
theorem dX4_init_46 : decode cX4_init 46 = .ok (.iconst 0, 1) := by decide +kernel
theorem dX4_init_47 : decode cX4_init 47 = .ok (.bipush (-18), 2) := by decide +kernel
theorem dX4_init_49 : decode cX4_init 49 = .ok (.iastore, 1) := by decide +kernel
theorem dX4_init_50 : decode cX4_init 50 = .ok (.dup, 1) := by decide +kernel
theorem dX4_init_51 : decode cX4_init 51 = .ok (.iconst 1, 1) := by decide +kernel
theorem dX4_init_52 : decode cX4_init 52 = .ok (.bipush (-18), 2) := by decide +kernel
theorem dX4_init_54 : decode cX4_init 54 = .ok (.iastore, 1) := by decide +kernel
theorem dX4_init_55 : decode cX4_init 55 = .ok (.dup, 1) := by decide +kernel
theorem dX4_init_56 : decode cX4_init 56 = .ok (.iconst 2, 1) := by decide +kernel
theorem dX4_init_57 : decode cX4_init 57 = .ok (.bipush (-18), 2) := by decide +kernel
theorem dX4_init_59 : decode cX4_init 59 = .ok (.iastore, 1) := by decide +kernel
theorem dX4_init_60 : decode cX4_init 60 = .ok (.dup, 1) := by decide +kernel
theorem dX4_init_61 : decode cX4_init 61 = .ok (.iconst 3, 1) := by decide +kernel
theorem dX4_init_62 : decode cX4_init 62 = .ok (.bipush (-18), 2) := by decide +kernel
theorem dX4_init_64 : decode cX4_init 64 = .ok (.iastore, 1) := by decide +kernel
theorem dX4_init_65 : decode cX4_init 65 = .ok (.dup, 1) := by decide +kernel
theorem dX4_init_66 : decode cX4_init 66 = .ok (.iconst 4, 1) := by decide +kernel
theorem dX4_init_67 : decode cX4_init 67 = .ok (.bipush (-18), 2) := by decide +kernel
theorem dX4_init_69 : decode cX4_init 69 = .ok (.iastore, 1) := by decide +kernel
theorem dX4_init_70 : decode cX4_init 70 = .ok (.putfield 17, 3) := by decide +kernel
theorem dX4_init_73 : decode cX4_init 73 = .ok (.aload_n 0, 1) := by decide +kernel
theorem dX4_init_74 : decode cX4_init 74 = .ok (.iconst 0, 1) := by decide +kernel
theorem dX4_init_75 : decode cX4_init 75 = .ok (.anewarray 20, 3) := by decide +kernel
theorem dX4_init_78 : decode cX4_init 78 = .ok (.putfield 21, 3) := by decide +kernel
theorem dX4_init_81 : decode cX4_init 81 = .ok (.return_, 1) := by decide +kernel
theorem dX4_add_0 : decode cX4_add 0 = .ok (.aload_n 0, 1) := by decide +kernel
theorem dX4_add_1 : decode cX4_add 1 = .ok (.getfield 21, 3) := by decide +kernel
theorem dX4_add_4 : decode cX4_add 4 = .ok (.arraylength, 1) := by decide +kernel
theorem dX4_add_5 : decode cX4_add 5 = .ok (.iconst 1, 1) := by decide +kernel
theorem dX4_add_6 : decode cX4_add 6 = .ok (.iadd, 1) := by decide +kernel
theorem dX4_add_7 : decode cX4_add 7 = .ok (.anewarray 20, 3) := by decide +kernel
theorem dX4_add_10 : decode cX4_add 10 = .ok (.astore 4, 2) := by decide +kernel
theorem dX4_add_12 : decode cX4_add 12 = .ok (.iconst 0, 1) := by decide +kernel
theorem dX4_add_13 : decode cX4_add 13 = .ok (.istore 5, 2) := by decide +kernel
theorem dX4_add_15 : decode cX4_add 15 = .ok (.iload 5, 2) := by decide +kernel
theorem dX4_add_17 : decode cX4_add 17 = .ok (.aload_n 0, 1) := by decide +kernel
theorem dX4_add_18 : decode cX4_add 18 = .ok (.getfield 21, 3) := by decide +kernel
theorem dX4_add_21 : decode cX4_add 21 = .ok (.arraylength, 1) := by decide +kernel
theorem dX4_add_22 : decode cX4_add 22 = .ok (.if_icmp .ge 21, 3) := by decide +kernel
theorem dX4_add_25 : decode cX4_add 25 = .ok (.aload 4, 2) := by decide +kernel
theorem dX4_add_27 : decode cX4_add 27 = .ok (.iload 5, 2) := by decide +kernel
theorem dX4_add_29 : decode cX4_add 29 = .ok (.aload_n 0, 1) := by decide +kernel
theorem dX4_add_30 : decode cX4_add 30 = .ok (.getfield 21, 3) := by decide +kernel
theorem dX4_add_33 : decode cX4_add 33 = .ok (.iload 5, 2) := by decide +kernel
theorem dX4_add_35 : decode cX4_add 35 = .ok (.aaload, 1) := by decide +kernel
theorem dX4_add_36 : decode cX4_add 36 = .ok (.aastore, 1) := by decide +kernel
theorem dX4_add_37 : decode cX4_add 37 = .ok (.iinc 5 1, 3) := by decide +kernel
theorem dX4_add_40 : decode cX4_add 40 = .ok (.goto (-25), 3) := by decide +kernel
theorem dX4_add_43 : decode cX4_add 43 = .ok (.aload 4, 2) := by decide +kernel
theorem dX4_add_45 : decode cX4_add 45 = .ok (.aload_n 0, 1) := by decide +kernel
theorem dX4_add_46 : decode cX4_add 46 = .ok (.getfield 21, 3) := by decide +kernel
theorem dX4_add_49 : decode cX4_add 49 = .ok (.arraylength, 1) := by decide +kernel
theorem dX4_add_50 : decode cX4_add 50 = .ok (.bipush 7, 2) := by decide +kernel
theorem dX4_add_52 : decode cX4_add 52 = .ok (.newarray .int, 2) := by decide +kernel
theorem dX4_add_54 : decode cX4_add 54 = .ok (.dup, 1) := by decide +kernel
theorem dX4_add_55 : decode cX4_add 55 = .ok (.iconst 0, 1) := by decide +kernel
theorem dX4_add_56 : decode cX4_add 56 = .ok (.iload_n 1, 1) := by decide +kernel
theorem dX4_add_57 : decode cX4_add 57 = .ok (.iastore, 1) := by decide +kernel
theorem dX4_add_58 : decode cX4_add 58 = .ok (.dup, 1) := by decide +kernel
theorem dX4_add_59 : decode cX4_add 59 = .ok (.iconst 1, 1) := by decide +kernel
theorem dX4_add_60 : decode cX4_add 60 = .ok (.iload_n 2, 1) := by decide +kernel
theorem dX4_add_61 : decode cX4_add 61 = .ok (.iastore, 1) := by decide +kernel
theorem dX4_add_62 : decode cX4_add 62 = .ok (.dup, 1) := by decide +kernel
theorem dX4_add_63 : decode cX4_add 63 = .ok (.iconst 2, 1) := by decide +kernel
theorem dX4_add_64 : decode cX4_add 64 = .ok (.iload_n 3, 1) := by decide +kernel
theorem dX4_add_65 : decode cX4_add 65 = .ok (.iastore, 1) := by decide +kernel
theorem dX4_add_66 : decode cX4_add 66 = .ok (.dup, 1) := by decide +kernel
theorem dX4_add_67 : decode cX4_add 67 = .ok (.iconst 3, 1) := by decide +kernel
theorem dX4_add_68 : decode cX4_add 68 = .ok (.bipush 20, 2) := by decide +kernel
theorem dX4_add_70 : decode cX4_add 70 = .ok (.iastore, 1) := by decide +kernel
theorem dX4_add_71 : decode cX4_add 71 = .ok (.dup, 1) := by decide +kernel
theorem dX4_add_72 : decode cX4_add 72 = .ok (.iconst 4, 1) := by decide +kernel
theorem dX4_add_73 : decode cX4_add 73 = .ok (.iconst 0, 1) := by decide +kernel
theorem dX4_add_74 : decode cX4_add 74 = .ok (.iastore, 1) := by decide +kernel
theorem dX4_add_75 : decode cX4_add 75 = .ok (.dup, 1) := by decide +kernel
theorem dX4_add_76 : decode cX4_add 76 = .ok (.iconst 5, 1) := by decide +kernel
theorem dX4_add_77 : decode cX4_add 77 = .ok (.iconst 0, 1) := by decide +kernel
theorem dX4_add_78 : decode cX4_add 78 = .ok (.iastore, 1) := by decide +kernel
theorem dX4_add_79 : decode cX4_add 79 = .ok (.dup, 1) := by decide +kernel
theorem dX4_add_80 : decode cX4_add 80 = .ok (.bipush 6, 2) := by decide +kernel
theorem dX4_add_82 : decode cX4_add 82 = .ok (.iconst 0, 1) := by decide +kernel
theorem dX4_add_83 : decode cX4_add 83 = .ok (.iastore, 1) := by decide +kernel
theorem dX4_add_84 : decode cX4_add 84 = .ok (.aastore, 1) := by decide +kernel
theorem dX4_add_85 : decode cX4_add 85 = .ok (.aload_n 0, 1) := by decide +kernel
theorem dX4_add_86 : decode cX4_add 86 = .ok (.aload 4, 2) := by decide +kernel
theorem dX4_add_88 : decode cX4_add 88 = .ok (.putfield 21, 3) := by decide +kernel
theorem dX4_add_91 : decode cX4_add 91 = .ok (.aload_n 0, 1) := by decide +kernel
theorem dX4_add_92 : decode cX4_add 92 = .ok (.iload_n 3, 1) := by decide +kernel
theorem dX4_add_93 : decode cX4_add 93 = .ok (.invokevirtual 25, 3) := by decide +kernel
theorem dX4_add_96 : decode cX4_add 96 = .ok (.return_, 1) := by decide +kernel
theorem dX4_open_0 : decode cX4_open 0 = .ok (.aload_n 0, 1) := by decide +kernel
theorem dX4_open_1 : decode cX4_open 1 = .ok (.getfield 17, 3) := by decide +kernel
theorem dX4_open_4 : decode cX4_open 4 = .ok (.iload_n 1, 1) := by decide +kernel
theorem dX4_open_5 : decode cX4_open 5 = .ok (.aload_n 0, 1) := by decide +kernel
theorem dX4_open_6 : decode cX4_open 6 = .ok (.getfield 17, 3) := by decide +kernel
theorem dX4_open_9 : decode cX4_open 9 = .ok (.iload_n 1, 1) := by decide +kernel
theorem dX4_open_10 : decode cX4_open 10 = .ok (.iaload, 1) := by decide +kernel
theorem dX4_open_11 : decode cX4_open 11 = .ok (.bipush 18, 2) := by decide +kernel
theorem dX4_open_13 : decode cX4_open 13 = .ok (.if_icmp .le 8, 3) := by decide +kernel
theorem dX4_open_16 : decode cX4_open 16 = .ok (.bipush 20, 2) := by decide +kernel
theorem dX4_open_18 : decode cX4_open 18 = .ok (.goto 11, 3) := by decide +kernel
theorem dX4_open_21 : decode cX4_open 21 = .ok (.aload_n 0, 1) := by decide +kernel
theorem dX4_open_22 : decode cX4_open 22 = .ok (.getfield 17, 3) := by decide +kernel
theorem dX4_open_25 : decode cX4_open 25 = .ok (.iload_n 1, 1) := by decide +kernel
theorem dX4_open_26 : decode cX4_open 26 = .ok (.iaload, 1) := by decide +kernel
theorem dX4_open_27 : decode cX4_open 27 = .ok (.iconst 2, 1) := by decide +kernel
theorem dX4_open_28 : decode cX4_open 28 = .ok (.iadd, 1) := by decide +kernel
theorem dX4_open_29 : decode cX4_open 29 = .ok (.iastore, 1) := by decide +kernel
theorem dX4_open_30 : decode cX4_open 30 = .ok (.return_, 1) := by decide +kernel
theorem dX4_pass_0 : decode cX4_pass 0 = .ok (.iconst 0, 1) := by decide +kernel
theorem dX4_pass_1 : decode cX4_pass 1 = .ok (.istore_n 1, 1) := by decide +kernel
theorem dX4_pass_2 : decode cX4_pass 2 = .ok (.iload_n 1, 1) := by decide +kernel
theorem dX4_pass_3 : decode cX4_pass 3 = .ok (.iconst 5, 1) := by decide +kernel
theorem dX4_pass_4 : decode cX4_pass 4 = .ok (.if_icmp .ge 105, 3) := by decide +kernel
theorem dX4_pass_7 : decode cX4_pass 7 = .ok (.aload_n 0, 1) := by decide +kernel
theorem dX4_pass_8 : decode cX4_pass 8 = .ok (.getfield 7, 3) := by decide +kernel
theorem dX4_pass_11 : decode cX4_pass 11 = .ok (.ifCond .ne 31, 3) := by decide +kernel
theorem dX4_pass_14 : decode cX4_pass 14 = .ok (.aload_n 0, 1) := by decide +kernel
theorem dX4_pass_15 : decode cX4_pass 15 = .ok (.getfield 17, 3) := by decide +kernel
theorem dX4_pass_18 : decode cX4_pass 18 = .ok (.iload_n 1, 1) := by decide +kernel
theorem dX4_pass_19 : decode cX4_pass 19 = .ok (.dup2, 1) := by decide +kernel
theorem dX4_pass_20 : decode cX4_pass 20 = .ok (.iaload, 1) := by decide +kernel
theorem dX4_pass_21 : decode cX4_pass 21 = .ok (.aload_n 0, 1) := by decide +kernel
theorem dX4_pass_22 : decode cX4_pass 22 = .ok (.getfield 17, 3) := by decide +kernel
theorem dX4_pass_25 : decode cX4_pass 25 = .ok (.iload_n 1, 1) := by decide +kernel
theorem dX4_pass_26 : decode cX4_pass 26 = .ok (.iaload, 1) := by decide +kernel
theorem dX4_pass_27 : decode cX4_pass 27 = .ok (.bipush 20, 2) := by decide +kernel
theorem dX4_pass_29 : decode cX4_pass 29 = .ok (.if_icmp .ge 7, 3) := by decide +kernel
theorem dX4_pass_32 : decode cX4_pass 32 = .ok (.iconst 1, 1) := by decide +kernel
theorem dX4_pass_33 : decode cX4_pass 33 = .ok (.goto 4, 3) := by decide +kernel
theorem dX4_pass_36 : decode cX4_pass 36 = .ok (.iconst 0, 1) := by decide +kernel
theorem dX4_pass_37 : decode cX4_pass 37 = .ok (.iadd, 1) := by decide +kernel
theorem dX4_pass_38 : decode cX4_pass 38 = .ok (.iastore, 1) := by decide +kernel
theorem dX4_pass_39 : decode cX4_pass 39 = .ok (.goto 64, 3) := by decide +kernel
theorem dX4_pass_42 : decode cX4_pass 42 = .ok (.iconst 0, 1) := by decide +kernel
theorem dX4_pass_43 : decode cX4_pass 43 = .ok (.istore_n 2, 1) := by decide +kernel
theorem dX4_pass_44 : decode cX4_pass 44 = .ok (.iload_n 2, 1) := by decide +kernel
theorem dX4_pass_45 : decode cX4_pass 45 = .ok (.iconst 2, 1) := by decide +kernel
theorem dX4_pass_46 : decode cX4_pass 46 = .ok (.if_icmp .ge 57, 3) := by decide +kernel
theorem dX4_pass_49 : decode cX4_pass 49 = .ok (.aload_n 0, 1) := by decide +kernel
theorem dX4_pass_50 : decode cX4_pass 50 = .ok (.getfield 17, 3) := by decide +kernel
theorem dX4_pass_53 : decode cX4_pass 53 = .ok (.iload_n 1, 1) := by decide +kernel
theorem dX4_pass_54 : decode cX4_pass 54 = .ok (.dup2, 1) := by decide +kernel
theorem dX4_pass_55 : decode cX4_pass 55 = .ok (.iaload, 1) := by decide +kernel
theorem dX4_pass_56 : decode cX4_pass 56 = .ok (.aload_n 0, 1) := by decide +kernel
theorem dX4_pass_57 : decode cX4_pass 57 = .ok (.getfield 17, 3) := by decide +kernel
theorem dX4_pass_60 : decode cX4_pass 60 = .ok (.iload_n 1, 1) := by decide +kernel
theorem dX4_pass_61 : decode cX4_pass 61 = .ok (.iaload, 1) := by decide +kernel
theorem dX4_pass_62 : decode cX4_pass 62 = .ok (.aload_n 0, 1) := by decide +kernel
theorem dX4_pass_63 : decode cX4_pass 63 = .ok (.getfield 13, 3) := by decide +kernel
theorem dX4_pass_66 : decode cX4_pass 66 = .ok (.iload_n 1, 1) := by decide +kernel
theorem dX4_pass_67 : decode cX4_pass 67 = .ok (.iaload, 1) := by decide +kernel
theorem dX4_pass_68 : decode cX4_pass 68 = .ok (.if_icmp .ge 7, 3) := by decide +kernel
theorem dX4_pass_71 : decode cX4_pass 71 = .ok (.iconst 1, 1) := by decide +kernel
theorem dX4_pass_72 : decode cX4_pass 72 = .ok (.goto 23, 3) := by decide +kernel
theorem dX4_pass_75 : decode cX4_pass 75 = .ok (.aload_n 0, 1) := by decide +kernel
theorem dX4_pass_76 : decode cX4_pass 76 = .ok (.getfield 17, 3) := by decide +kernel
theorem dX4_pass_79 : decode cX4_pass 79 = .ok (.iload_n 1, 1) := by decide +kernel
theorem dX4_pass_80 : decode cX4_pass 80 = .ok (.iaload, 1) := by decide +kernel
theorem dX4_pass_81 : decode cX4_pass 81 = .ok (.aload_n 0, 1) := by decide +kernel
theorem dX4_pass_82 : decode cX4_pass 82 = .ok (.getfield 13, 3) := by decide +kernel
theorem dX4_pass_85 : decode cX4_pass 85 = .ok (.iload_n 1, 1) := by decide +kernel
theorem dX4_pass_86 : decode cX4_pass 86 = .ok (.iaload, 1) := by decide +kernel
theorem dX4_pass_87 : decode cX4_pass 87 = .ok (.if_icmp .le 7, 3) := by decide +kernel
theorem dX4_pass_90 : decode cX4_pass 90 = .ok (.iconst (-1), 1) := by decide +kernel
theorem dX4_pass_91 : decode cX4_pass 91 = .ok (.goto 4, 3) := by decide +kernel
theorem dX4_pass_94 : decode cX4_pass 94 = .ok (.iconst 0, 1) := by decide +kernel
theorem dX4_pass_95 : decode cX4_pass 95 = .ok (.iadd, 1) := by decide +kernel
theorem dX4_pass_96 : decode cX4_pass 96 = .ok (.iastore, 1) := by decide +kernel
theorem dX4_pass_97 : decode cX4_pass 97 = .ok (.iinc 2 1, 3) := by decide +kernel
theorem dX4_pass_100 : decode cX4_pass 100 = .ok (.goto (-56), 3) := by decide +kernel
theorem dX4_pass_103 : decode cX4_pass 103 = .ok (.iinc 1 1, 3) := by decide +kernel
theorem dX4_pass_106 : decode cX4_pass 106 = .ok (.goto (-104), 3) := by decide +kernel
theorem dX4_pass_109 : decode cX4_pass 109 = .ok (.iconst 0, 1) := by decide +kernel
theorem dX4_pass_110 : decode cX4_pass 110 = .ok (.istore_n 1, 1) := by decide +kernel
theorem dX4_pass_111 : decode cX4_pass 111 = .ok (.aload_n 0, 1) := by decide +kernel
theorem dX4_pass_112 : decode cX4_pass 112 = .ok (.getfield 21, 3) := by decide +kernel
theorem dX4_pass_115 : decode cX4_pass 115 = .ok (.astore_n 2, 1) := by decide +kernel
theorem dX4_pass_116 : decode cX4_pass 116 = .ok (.aload_n 2, 1) := by decide +kernel
theorem dX4_pass_117 : decode cX4_pass 117 = .ok (.arraylength, 1) := by decide +kernel
theorem dX4_pass_118 : decode cX4_pass 118 = .ok (.istore_n 3, 1) := by decide +kernel
theorem dX4_pass_119 : decode cX4_pass 119 = .ok (.iconst 0, 1) := by decide +kernel
theorem dX4_pass_120 : decode cX4_pass 120 = .ok (.istore 4, 2) := by decide +kernel
theorem dX4_pass_122 : decode cX4_pass 122 = .ok (.iload 4, 2) := by decide +kernel
theorem dX4_pass_124 : decode cX4_pass 124 = .ok (.iload_n 3, 1) := by decide +kernel
theorem dX4_pass_125 : decode cX4_pass 125 = .ok (.if_icmp .ge 184, 3) := by decide +kernel
theorem dX4_pass_128 : decode cX4_pass 128 = .ok (.aload_n 2, 1) := by decide +kernel
theorem dX4_pass_129 : decode cX4_pass 129 = .ok (.iload 4, 2) := by decide +kernel
theorem dX4_pass_131 : decode cX4_pass 131 = .ok (.aaload, 1) := by decide +kernel
theorem dX4_pass_132 : decode cX4_pass 132 = .ok (.astore 5, 2) := by decide +kernel
theorem dX4_pass_134 : decode cX4_pass 134 = .ok (.aload 5, 2) := by decide +kernel
theorem dX4_pass_136 : decode cX4_pass 136 = .ok (.iconst 2, 1) := by decide +kernel
theorem dX4_pass_137 : decode cX4_pass 137 = .ok (.iaload, 1) := by decide +kernel
theorem dX4_pass_138 : decode cX4_pass 138 = .ok (.ifCond .ge 6, 3) := by decide +kernel
theorem dX4_pass_141 : decode cX4_pass 141 = .ok (.goto 162, 3) := by decide +kernel
theorem dX4_pass_144 : decode cX4_pass 144 = .ok (.aload_n 0, 1) := by decide +kernel
theorem dX4_pass_145 : decode cX4_pass 145 = .ok (.getfield 17, 3) := by decide +kernel
theorem dX4_pass_148 : decode cX4_pass 148 = .ok (.aload 5, 2) := by decide +kernel
theorem dX4_pass_150 : decode cX4_pass 150 = .ok (.iconst 2, 1) := by decide +kernel
theorem dX4_pass_151 : decode cX4_pass 151 = .ok (.iaload, 1) := by decide +kernel
theorem dX4_pass_152 : decode cX4_pass 152 = .ok (.iaload, 1) := by decide +kernel
theorem dX4_pass_153 : decode cX4_pass 153 = .ok (.aload 5, 2) := by decide +kernel
theorem dX4_pass_155 : decode cX4_pass 155 = .ok (.iconst 3, 1) := by decide +kernel
theorem dX4_pass_156 : decode cX4_pass 156 = .ok (.iaload, 1) := by decide +kernel
theorem dX4_pass_157 : decode cX4_pass 157 = .ok (.isub, 1) := by decide +kernel
theorem dX4_pass_158 : decode cX4_pass 158 = .ok (.istore 6, 2) := by decide +kernel
theorem dX4_pass_160 : decode cX4_pass 160 = .ok (.iload 6, 2) := by decide +kernel
theorem dX4_pass_162 : decode cX4_pass 162 = .ok (.ifCond .ge 9, 3) := by decide +kernel
theorem dX4_pass_165 : decode cX4_pass 165 = .ok (.iload 6, 2) := by decide +kernel
theorem dX4_pass_167 : decode cX4_pass 167 = .ok (.ineg, 1) := by decide +kernel
theorem dX4_pass_168 : decode cX4_pass 168 = .ok (.goto 5, 3) := by decide +kernel
theorem dX4_pass_171 : decode cX4_pass 171 = .ok (.iload 6, 2) := by decide +kernel
theorem dX4_pass_173 : decode cX4_pass 173 = .ok (.iconst 2, 1) := by decide +kernel
theorem dX4_pass_174 : decode cX4_pass 174 = .ok (.idiv, 1) := by decide +kernel
theorem dX4_pass_175 : decode cX4_pass 175 = .ok (.istore 7, 2) := by decide +kernel
theorem dX4_pass_177 : decode cX4_pass 177 = .ok (.iload 7, 2) := by decide +kernel
theorem dX4_pass_179 : decode cX4_pass 179 = .ok (.ifCond .ne 11, 3) := by decide +kernel
theorem dX4_pass_182 : decode cX4_pass 182 = .ok (.iload 6, 2) := by decide +kernel
theorem dX4_pass_184 : decode cX4_pass 184 = .ok (.ifCond .eq 6, 3) := by decide +kernel
theorem dX4_pass_187 : decode cX4_pass 187 = .ok (.iconst 1, 1) := by decide +kernel
theorem dX4_pass_188 : decode cX4_pass 188 = .ok (.istore 7, 2) := by decide +kernel
theorem dX4_pass_190 : decode cX4_pass 190 = .ok (.aload 5, 2) := by decide +kernel
theorem dX4_pass_192 : decode cX4_pass 192 = .ok (.iconst 3, 1) := by decide +kernel
theorem dX4_pass_193 : decode cX4_pass 193 = .ok (.dup2, 1) := by decide +kernel
theorem dX4_pass_194 : decode cX4_pass 194 = .ok (.iaload, 1) := by decide +kernel
theorem dX4_pass_195 : decode cX4_pass 195 = .ok (.iload 6, 2) := by decide +kernel
theorem dX4_pass_197 : decode cX4_pass 197 = .ok (.ifCond .ge 9, 3) := by decide +kernel
theorem dX4_pass_200 : decode cX4_pass 200 = .ok (.iload 7, 2) := by decide +kernel
theorem dX4_pass_202 : decode cX4_pass 202 = .ok (.ineg, 1) := by decide +kernel
theorem dX4_pass_203 : decode cX4_pass 203 = .ok (.goto 5, 3) := by decide +kernel
theorem dX4_pass_206 : decode cX4_pass 206 = .ok (.iload 7, 2) := by decide +kernel
theorem dX4_pass_208 : decode cX4_pass 208 = .ok (.iadd, 1) := by decide +kernel
theorem dX4_pass_209 : decode cX4_pass 209 = .ok (.iastore, 1) := by decide +kernel
theorem dX4_pass_210 : decode cX4_pass 210 = .ok (.aload 5, 2) := by decide +kernel
theorem dX4_pass_212 : decode cX4_pass 212 = .ok (.iconst 5, 1) := by decide +kernel
theorem dX4_pass_213 : decode cX4_pass 213 = .ok (.iaload, 1) := by decide +kernel
theorem dX4_pass_214 : decode cX4_pass 214 = .ok (.ifCond .ne 20, 3) := by decide +kernel
theorem dX4_pass_217 : decode cX4_pass 217 = .ok (.aload 5, 2) := by decide +kernel
theorem dX4_pass_219 : decode cX4_pass 219 = .ok (.iconst 3, 1) := by decide +kernel
theorem dX4_pass_220 : decode cX4_pass 220 = .ok (.iaload, 1) := by decide +kernel
theorem dX4_pass_221 : decode cX4_pass 221 = .ok (.bipush (-9), 2) := by decide +kernel
theorem dX4_pass_223 : decode cX4_pass 223 = .ok (.if_icmp .ge 11, 3) := by decide +kernel
theorem dX4_pass_226 : decode cX4_pass 226 = .ok (.aload 5, 2) := by decide +kernel
theorem dX4_pass_228 : decode cX4_pass 228 = .ok (.iconst 5, 1) := by decide +kernel
theorem dX4_pass_229 : decode cX4_pass 229 = .ok (.iconst 1, 1) := by decide +kernel
theorem dX4_pass_230 : decode cX4_pass 230 = .ok (.iastore, 1) := by decide +kernel
theorem dX4_pass_231 : decode cX4_pass 231 = .ok (.goto 28, 3) := by decide +kernel
theorem dX4_pass_234 : decode cX4_pass 234 = .ok (.aload 5, 2) := by decide +kernel
theorem dX4_pass_236 : decode cX4_pass 236 = .ok (.iconst 5, 1) := by decide +kernel
theorem dX4_pass_237 : decode cX4_pass 237 = .ok (.iaload, 1) := by decide +kernel
theorem dX4_pass_238 : decode cX4_pass 238 = .ok (.iconst 1, 1) := by decide +kernel
theorem dX4_pass_239 : decode cX4_pass 239 = .ok (.if_icmp .ne 20, 3) := by decide +kernel
theorem dX4_pass_242 : decode cX4_pass 242 = .ok (.aload 5, 2) := by decide +kernel
theorem dX4_pass_244 : decode cX4_pass 244 = .ok (.iconst 3, 1) := by decide +kernel
theorem dX4_pass_245 : decode cX4_pass 245 = .ok (.iaload, 1) := by decide +kernel
theorem dX4_pass_246 : decode cX4_pass 246 = .ok (.bipush (-4), 2) := by decide +kernel
theorem dX4_pass_248 : decode cX4_pass 248 = .ok (.if_icmp .le 11, 3) := by decide +kernel
theorem dX4_pass_251 : decode cX4_pass 251 = .ok (.aload 5, 2) := by decide +kernel
theorem dX4_pass_253 : decode cX4_pass 253 = .ok (.iconst 5, 1) := by decide +kernel
theorem dX4_pass_254 : decode cX4_pass 254 = .ok (.iconst 2, 1) := by decide +kernel
theorem dX4_pass_255 : decode cX4_pass 255 = .ok (.iastore, 1) := by decide +kernel
theorem dX4_pass_256 : decode cX4_pass 256 = .ok (.iinc 1 1, 3) := by decide +kernel
theorem dX4_pass_259 : decode cX4_pass 259 = .ok (.aload 5, 2) := by decide +kernel
theorem dX4_pass_261 : decode cX4_pass 261 = .ok (.iconst 5, 1) := by decide +kernel
theorem dX4_pass_262 : decode cX4_pass 262 = .ok (.iaload, 1) := by decide +kernel
theorem dX4_pass_263 : decode cX4_pass 263 = .ok (.iconst 1, 1) := by decide +kernel
theorem dX4_pass_264 : decode cX4_pass 264 = .ok (.if_icmp .ne 6, 3) := by decide +kernel
theorem dX4_pass_267 : decode cX4_pass 267 = .ok (.goto 36, 3) := by decide +kernel
theorem dX4_pass_270 : decode cX4_pass 270 = .ok (.aload 5, 2) := by decide +kernel
theorem dX4_pass_272 : decode cX4_pass 272 = .ok (.iconst 4, 1) := by decide +kernel
theorem dX4_pass_273 : decode cX4_pass 273 = .ok (.dup2, 1) := by decide +kernel
theorem dX4_pass_274 : decode cX4_pass 274 = .ok (.iaload, 1) := by decide +kernel
theorem dX4_pass_275 : decode cX4_pass 275 = .ok (.iconst 1, 1) := by decide +kernel
theorem dX4_pass_276 : decode cX4_pass 276 = .ok (.iadd, 1) := by decide +kernel
theorem dX4_pass_277 : decode cX4_pass 277 = .ok (.iastore, 1) := by decide +kernel
theorem dX4_pass_278 : decode cX4_pass 278 = .ok (.aload 5, 2) := by decide +kernel
theorem dX4_pass_280 : decode cX4_pass 280 = .ok (.iconst 4, 1) := by decide +kernel
theorem dX4_pass_281 : decode cX4_pass 281 = .ok (.iaload, 1) := by decide +kernel
theorem dX4_pass_282 : decode cX4_pass 282 = .ok (.aload 5, 2) := by decide +kernel
theorem dX4_pass_284 : decode cX4_pass 284 = .ok (.iconst 1, 1) := by decide +kernel
theorem dX4_pass_285 : decode cX4_pass 285 = .ok (.iaload, 1) := by decide +kernel
theorem dX4_pass_286 : decode cX4_pass 286 = .ok (.if_icmp .eq 6, 3) := by decide +kernel
theorem dX4_pass_289 : decode cX4_pass 289 = .ok (.goto 14, 3) := by decide +kernel
theorem dX4_pass_292 : decode cX4_pass 292 = .ok (.aload 5, 2) := by decide +kernel
theorem dX4_pass_294 : decode cX4_pass 294 = .ok (.iconst 2, 1) := by decide +kernel
theorem dX4_pass_295 : decode cX4_pass 295 = .ok (.iconst (-1), 1) := by decide +kernel
theorem dX4_pass_296 : decode cX4_pass 296 = .ok (.iastore, 1) := by decide +kernel
theorem dX4_pass_297 : decode cX4_pass 297 = .ok (.aload 5, 2) := by decide +kernel
theorem dX4_pass_299 : decode cX4_pass 299 = .ok (.bipush 6, 2) := by decide +kernel
theorem dX4_pass_301 : decode cX4_pass 301 = .ok (.iconst 2, 1) := by decide +kernel
theorem dX4_pass_302 : decode cX4_pass 302 = .ok (.iastore, 1) := by decide +kernel
theorem dX4_pass_303 : decode cX4_pass 303 = .ok (.iinc 4 1, 3) := by decide +kernel
theorem dX4_pass_306 : decode cX4_pass 306 = .ok (.goto (-184), 3) := by decide +kernel
theorem dX4_pass_309 : decode cX4_pass 309 = .ok (.aload_n 0, 1) := by decide +kernel
theorem dX4_pass_310 : decode cX4_pass 310 = .ok (.dup, 1) := by decide +kernel
theorem dX4_pass_311 : decode cX4_pass 311 = .ok (.getfield 34, 3) := by decide +kernel
theorem dX4_pass_314 : decode cX4_pass 314 = .ok (.iload_n 1, 1) := by decide +kernel
theorem dX4_pass_315 : decode cX4_pass 315 = .ok (.iadd, 1) := by decide +kernel
theorem dX4_pass_316 : decode cX4_pass 316 = .ok (.putfield 34, 3) := by decide +kernel
theorem dX4_pass_319 : decode cX4_pass 319 = .ok (.aload_n 0, 1) := by decide +kernel
theorem dX4_pass_320 : decode cX4_pass 320 = .ok (.dup, 1) := by decide +kernel
theorem dX4_pass_321 : decode cX4_pass 321 = .ok (.getfield 30, 3) := by decide +kernel
theorem dX4_pass_324 : decode cX4_pass 324 = .ok (.iconst 1, 1) := by decide +kernel
theorem dX4_pass_325 : decode cX4_pass 325 = .ok (.iadd, 1) := by decide +kernel
theorem dX4_pass_326 : decode cX4_pass 326 = .ok (.putfield 30, 3) := by decide +kernel
theorem dX4_pass_329 : decode cX4_pass 329 = .ok (.iload_n 1, 1) := by decide +kernel
theorem dX4_pass_330 : decode cX4_pass 330 = .ok (.ireturn, 1) := by decide +kernel
theorem dX4_pass__0 : decode cX4_pass_ 0 = .ok (.iconst 0, 1) := by decide +kernel
theorem dX4_pass__1 : decode cX4_pass_ 1 = .ok (.istore_n 2, 1) := by decide +kernel
theorem dX4_pass__2 : decode cX4_pass_ 2 = .ok (.iconst 0, 1) := by decide +kernel
theorem dX4_pass__3 : decode cX4_pass_ 3 = .ok (.istore_n 3, 1) := by decide +kernel
theorem dX4_pass__4 : decode cX4_pass_ 4 = .ok (.iload_n 3, 1) := by decide +kernel
theorem dX4_pass__5 : decode cX4_pass_ 5 = .ok (.iload_n 1, 1) := by decide +kernel
theorem dX4_pass__6 : decode cX4_pass_ 6 = .ok (.if_icmp .ge 16, 3) := by decide +kernel
theorem dX4_pass__9 : decode cX4_pass_ 9 = .ok (.iload_n 2, 1) := by decide +kernel
theorem dX4_pass__10 : decode cX4_pass_ 10 = .ok (.aload_n 0, 1) := by decide +kernel
theorem dX4_pass__11 : decode cX4_pass_ 11 = .ok (.invokevirtual 41, 3) := by decide +kernel
theorem dX4_pass__14 : decode cX4_pass_ 14 = .ok (.iadd, 1) := by decide +kernel
theorem dX4_pass__15 : decode cX4_pass_ 15 = .ok (.istore_n 2, 1) := by decide +kernel
theorem dX4_pass__16 : decode cX4_pass_ 16 = .ok (.iinc 3 1, 3) := by decide +kernel
theorem dX4_pass__19 : decode cX4_pass_ 19 = .ok (.goto (-15), 3) := by decide +kernel
theorem dX4_pass__22 : decode cX4_pass_ 22 = .ok (.iload_n 2, 1) := by decide +kernel
theorem dX4_pass__23 : decode cX4_pass_ 23 = .ok (.ireturn, 1) := by decide +kernel
theorem dX4_left_0 : decode cX4_left 0 = .ok (.iconst 0, 1) := by decide +kernel
theorem dX4_left_1 : decode cX4_left 1 = .ok (.istore_n 1, 1) := by decide +kernel
theorem dX4_left_2 : decode cX4_left 2 = .ok (.aload_n 0, 1) := by decide +kernel
theorem dX4_left_3 : decode cX4_left 3 = .ok (.getfield 21, 3) := by decide +kernel
theorem dX4_left_6 : decode cX4_left 6 = .ok (.astore_n 2, 1) := by decide +kernel
theorem dX4_left_7 : decode cX4_left 7 = .ok (.aload_n 2, 1) := by decide +kernel
theorem dX4_left_8 : decode cX4_left 8 = .ok (.arraylength, 1) := by decide +kernel
theorem dX4_left_9 : decode cX4_left 9 = .ok (.istore_n 3, 1) := by decide +kernel
theorem dX4_left_10 : decode cX4_left 10 = .ok (.iconst 0, 1) := by decide +kernel
theorem dX4_left_11 : decode cX4_left 11 = .ok (.istore 4, 2) := by decide +kernel
theorem dX4_left_13 : decode cX4_left 13 = .ok (.iload 4, 2) := by decide +kernel
theorem dX4_left_15 : decode cX4_left 15 = .ok (.iload_n 3, 1) := by decide +kernel
theorem dX4_left_16 : decode cX4_left 16 = .ok (.if_icmp .ge 30, 3) := by decide +kernel
theorem dX4_left_19 : decode cX4_left 19 = .ok (.aload_n 2, 1) := by decide +kernel
theorem dX4_left_20 : decode cX4_left 20 = .ok (.iload 4, 2) := by decide +kernel
theorem dX4_left_22 : decode cX4_left 22 = .ok (.aaload, 1) := by decide +kernel
theorem dX4_left_23 : decode cX4_left 23 = .ok (.astore 5, 2) := by decide +kernel
theorem dX4_left_25 : decode cX4_left 25 = .ok (.iload_n 1, 1) := by decide +kernel
theorem dX4_left_26 : decode cX4_left 26 = .ok (.aload 5, 2) := by decide +kernel
theorem dX4_left_28 : decode cX4_left 28 = .ok (.iconst 2, 1) := by decide +kernel
theorem dX4_left_29 : decode cX4_left 29 = .ok (.iaload, 1) := by decide +kernel
theorem dX4_left_30 : decode cX4_left 30 = .ok (.ifCond .lt 7, 3) := by decide +kernel
theorem dX4_left_33 : decode cX4_left 33 = .ok (.iconst 1, 1) := by decide +kernel
theorem dX4_left_34 : decode cX4_left 34 = .ok (.goto 4, 3) := by decide +kernel
theorem dX4_left_37 : decode cX4_left 37 = .ok (.iconst 0, 1) := by decide +kernel
theorem dX4_left_38 : decode cX4_left 38 = .ok (.iadd, 1) := by decide +kernel
theorem dX4_left_39 : decode cX4_left 39 = .ok (.istore_n 1, 1) := by decide +kernel
theorem dX4_left_40 : decode cX4_left 40 = .ok (.iinc 4 1, 3) := by decide +kernel
theorem dX4_left_43 : decode cX4_left 43 = .ok (.goto (-30), 3) := by decide +kernel
theorem dX4_left_46 : decode cX4_left 46 = .ok (.iload_n 1, 1) := by decide +kernel
theorem dX4_left_47 : decode cX4_left 47 = .ok (.ireturn, 1) := by decide +kernel
theorem dX4_isSame_0 : decode cX4_isSame 0 = .ok (.iconst 0, 1) := by decide +kernel
theorem dX4_isSame_1 : decode cX4_isSame 1 = .ok (.istore_n 2, 1) := by decide +kernel
theorem dX4_isSame_2 : decode cX4_isSame 2 = .ok (.iconst 0, 1) := by decide +kernel
theorem dX4_isSame_3 : decode cX4_isSame 3 = .ok (.istore_n 3, 1) := by decide +kernel
theorem dX4_isSame_4 : decode cX4_isSame 4 = .ok (.iload_n 3, 1) := by decide +kernel
theorem dX4_isSame_5 : decode cX4_isSame 5 = .ok (.iconst 5, 1) := by decide +kernel
theorem dX4_isSame_6 : decode cX4_isSame 6 = .ok (.if_icmp .ge 121, 3) := by decide +kernel
theorem dX4_isSame_9 : decode cX4_isSame 9 = .ok (.iconst 0, 1) := by decide +kernel
theorem dX4_isSame_10 : decode cX4_isSame 10 = .ok (.istore 4, 2) := by decide +kernel
theorem dX4_isSame_12 : decode cX4_isSame 12 = .ok (.aload_n 0, 1) := by decide +kernel
theorem dX4_isSame_13 : decode cX4_isSame 13 = .ok (.getfield 21, 3) := by decide +kernel
theorem dX4_isSame_16 : decode cX4_isSame 16 = .ok (.astore 5, 2) := by decide +kernel
theorem dX4_isSame_18 : decode cX4_isSame 18 = .ok (.aload 5, 2) := by decide +kernel
theorem dX4_isSame_20 : decode cX4_isSame 20 = .ok (.arraylength, 1) := by decide +kernel
theorem dX4_isSame_21 : decode cX4_isSame 21 = .ok (.istore 6, 2) := by decide +kernel
theorem dX4_isSame_23 : decode cX4_isSame 23 = .ok (.iconst 0, 1) := by decide +kernel
theorem dX4_isSame_24 : decode cX4_isSame 24 = .ok (.istore 7, 2) := by decide +kernel
theorem dX4_isSame_26 : decode cX4_isSame 26 = .ok (.iload 7, 2) := by decide +kernel
theorem dX4_isSame_28 : decode cX4_isSame 28 = .ok (.iload 6, 2) := by decide +kernel
theorem dX4_isSame_30 : decode cX4_isSame 30 = .ok (.if_icmp .ge 34, 3) := by decide +kernel
theorem dX4_isSame_33 : decode cX4_isSame 33 = .ok (.aload 5, 2) := by decide +kernel
theorem dX4_isSame_35 : decode cX4_isSame 35 = .ok (.iload 7, 2) := by decide +kernel
theorem dX4_isSame_37 : decode cX4_isSame 37 = .ok (.aaload, 1) := by decide +kernel
theorem dX4_isSame_38 : decode cX4_isSame 38 = .ok (.astore 8, 2) := by decide +kernel
theorem dX4_isSame_40 : decode cX4_isSame 40 = .ok (.iload 4, 2) := by decide +kernel
theorem dX4_isSame_42 : decode cX4_isSame 42 = .ok (.aload 8, 2) := by decide +kernel
theorem dX4_isSame_44 : decode cX4_isSame 44 = .ok (.iconst 2, 1) := by decide +kernel
theorem dX4_isSame_45 : decode cX4_isSame 45 = .ok (.iaload, 1) := by decide +kernel
theorem dX4_isSame_46 : decode cX4_isSame 46 = .ok (.iload_n 3, 1) := by decide +kernel
theorem dX4_isSame_47 : decode cX4_isSame 47 = .ok (.if_icmp .ne 7, 3) := by decide +kernel
theorem dX4_isSame_50 : decode cX4_isSame 50 = .ok (.iconst 1, 1) := by decide +kernel
theorem dX4_isSame_51 : decode cX4_isSame 51 = .ok (.goto 4, 3) := by decide +kernel
theorem dX4_isSame_54 : decode cX4_isSame 54 = .ok (.iconst 0, 1) := by decide +kernel
theorem dX4_isSame_55 : decode cX4_isSame 55 = .ok (.iadd, 1) := by decide +kernel
theorem dX4_isSame_56 : decode cX4_isSame 56 = .ok (.istore 4, 2) := by decide +kernel
theorem dX4_isSame_58 : decode cX4_isSame 58 = .ok (.iinc 7 1, 3) := by decide +kernel
theorem dX4_isSame_61 : decode cX4_isSame 61 = .ok (.goto (-35), 3) := by decide +kernel
theorem dX4_isSame_64 : decode cX4_isSame 64 = .ok (.aload_n 1, 1) := by decide +kernel
theorem dX4_isSame_65 : decode cX4_isSame 65 = .ok (.iload_n 3, 1) := by decide +kernel
theorem dX4_isSame_66 : decode cX4_isSame 66 = .ok (.invokevirtual 45, 3) := by decide +kernel
theorem dX4_isSame_69 : decode cX4_isSame 69 = .ok (.aload_n 0, 1) := by decide +kernel
theorem dX4_isSame_70 : decode cX4_isSame 70 = .ok (.getfield 13, 3) := by decide +kernel
theorem dX4_isSame_73 : decode cX4_isSame 73 = .ok (.iload_n 3, 1) := by decide +kernel
theorem dX4_isSame_74 : decode cX4_isSame 74 = .ok (.iaload, 1) := by decide +kernel
theorem dX4_isSame_75 : decode cX4_isSame 75 = .ok (.if_icmp .ne 27, 3) := by decide +kernel
theorem dX4_isSame_78 : decode cX4_isSame 78 = .ok (.aload_n 1, 1) := by decide +kernel
theorem dX4_isSame_79 : decode cX4_isSame 79 = .ok (.iload_n 3, 1) := by decide +kernel
theorem dX4_isSame_80 : decode cX4_isSame 80 = .ok (.invokevirtual 51, 3) := by decide +kernel
theorem dX4_isSame_83 : decode cX4_isSame 83 = .ok (.aload_n 0, 1) := by decide +kernel
theorem dX4_isSame_84 : decode cX4_isSame 84 = .ok (.getfield 17, 3) := by decide +kernel
theorem dX4_isSame_87 : decode cX4_isSame 87 = .ok (.iload_n 3, 1) := by decide +kernel
theorem dX4_isSame_88 : decode cX4_isSame 88 = .ok (.iaload, 1) := by decide +kernel
theorem dX4_isSame_89 : decode cX4_isSame 89 = .ok (.if_icmp .ne 13, 3) := by decide +kernel
theorem dX4_isSame_92 : decode cX4_isSame 92 = .ok (.aload_n 1, 1) := by decide +kernel
theorem dX4_isSame_93 : decode cX4_isSame 93 = .ok (.iload_n 3, 1) := by decide +kernel
theorem dX4_isSame_94 : decode cX4_isSame 94 = .ok (.invokevirtual 54, 3) := by decide +kernel
theorem dX4_isSame_97 : decode cX4_isSame 97 = .ok (.iload 4, 2) := by decide +kernel
theorem dX4_isSame_99 : decode cX4_isSame 99 = .ok (.if_icmp .eq 5, 3) := by decide +kernel
theorem dX4_isSame_102 : decode cX4_isSame 102 = .ok (.iconst 0, 1) := by decide +kernel
theorem dX4_isSame_103 : decode cX4_isSame 103 = .ok (.ireturn, 1) := by decide +kernel
theorem dX4_isSame_104 : decode cX4_isSame 104 = .ok (.aload_n 0, 1) := by decide +kernel
theorem dX4_isSame_105 : decode cX4_isSame 105 = .ok (.getfield 17, 3) := by decide +kernel
theorem dX4_isSame_108 : decode cX4_isSame 108 = .ok (.iload_n 3, 1) := by decide +kernel
theorem dX4_isSame_109 : decode cX4_isSame 109 = .ok (.iaload, 1) := by decide +kernel
theorem dX4_isSame_110 : decode cX4_isSame 110 = .ok (.aload_n 0, 1) := by decide +kernel
theorem dX4_isSame_111 : decode cX4_isSame 111 = .ok (.getfield 17, 3) := by decide +kernel
theorem dX4_isSame_114 : decode cX4_isSame 114 = .ok (.iload_n 2, 1) := by decide +kernel
theorem dX4_isSame_115 : decode cX4_isSame 115 = .ok (.iaload, 1) := by decide +kernel
theorem dX4_isSame_116 : decode cX4_isSame 116 = .ok (.if_icmp .ge 5, 3) := by decide +kernel
theorem dX4_isSame_119 : decode cX4_isSame 119 = .ok (.iload_n 3, 1) := by decide +kernel
theorem dX4_isSame_120 : decode cX4_isSame 120 = .ok (.istore_n 2, 1) := by decide +kernel
theorem dX4_isSame_121 : decode cX4_isSame 121 = .ok (.iinc 3 1, 3) := by decide +kernel
theorem dX4_isSame_124 : decode cX4_isSame 124 = .ok (.goto (-120), 3) := by decide +kernel
theorem dX4_isSame_127 : decode cX4_isSame 127 = .ok (.iconst 0, 1) := by decide +kernel
theorem dX4_isSame_128 : decode cX4_isSame 128 = .ok (.istore_n 3, 1) := by decide +kernel
theorem dX4_isSame_129 : decode cX4_isSame 129 = .ok (.bipush 6, 2) := by decide +kernel
theorem dX4_isSame_131 : decode cX4_isSame 131 = .ok (.newarray .int, 2) := by decide +kernel
theorem dX4_isSame_133 : decode cX4_isSame 133 = .ok (.astore 4, 2) := by decide +kernel
theorem dX4_isSame_135 : decode cX4_isSame 135 = .ok (.bipush 6, 2) := by decide +kernel
theorem dX4_isSame_137 : decode cX4_isSame 137 = .ok (.newarray .int, 2) := by decide +kernel
theorem dX4_isSame_139 : decode cX4_isSame 139 = .ok (.astore 5, 2) := by decide +kernel
theorem dX4_isSame_141 : decode cX4_isSame 141 = .ok (.iconst 0, 1) := by decide +kernel
theorem dX4_isSame_142 : decode cX4_isSame 142 = .ok (.istore 6, 2) := by decide +kernel
theorem dX4_isSame_144 : decode cX4_isSame 144 = .ok (.iload 6, 2) := by decide +kernel
theorem dX4_isSame_146 : decode cX4_isSame 146 = .ok (.aload_n 0, 1) := by decide +kernel
theorem dX4_isSame_147 : decode cX4_isSame 147 = .ok (.getfield 21, 3) := by decide +kernel
theorem dX4_isSame_150 : decode cX4_isSame 150 = .ok (.arraylength, 1) := by decide +kernel
theorem dX4_isSame_151 : decode cX4_isSame 151 = .ok (.if_icmp .ge 271, 3) := by decide +kernel
theorem dX4_isSame_154 : decode cX4_isSame 154 = .ok (.aload_n 0, 1) := by decide +kernel
theorem dX4_isSame_155 : decode cX4_isSame 155 = .ok (.getfield 21, 3) := by decide +kernel
theorem dX4_isSame_158 : decode cX4_isSame 158 = .ok (.iload 6, 2) := by decide +kernel
theorem dX4_isSame_160 : decode cX4_isSame 160 = .ok (.aaload, 1) := by decide +kernel
theorem dX4_isSame_161 : decode cX4_isSame 161 = .ok (.astore 7, 2) := by decide +kernel
theorem dX4_isSame_163 : decode cX4_isSame 163 = .ok (.aload_n 1, 1) := by decide +kernel
theorem dX4_isSame_164 : decode cX4_isSame 164 = .ok (.iload 6, 2) := by decide +kernel
theorem dX4_isSame_166 : decode cX4_isSame 166 = .ok (.invokevirtual 57, 3) := by decide +kernel
theorem dX4_isSame_169 : decode cX4_isSame 169 = .ok (.aload 7, 2) := by decide +kernel
theorem dX4_isSame_171 : decode cX4_isSame 171 = .ok (.iconst 0, 1) := by decide +kernel
theorem dX4_isSame_172 : decode cX4_isSame 172 = .ok (.iaload, 1) := by decide +kernel
theorem dX4_isSame_173 : decode cX4_isSame 173 = .ok (.if_icmp .ne 164, 3) := by decide +kernel
theorem dX4_isSame_176 : decode cX4_isSame 176 = .ok (.aload_n 1, 1) := by decide +kernel
theorem dX4_isSame_177 : decode cX4_isSame 177 = .ok (.iload 6, 2) := by decide +kernel
theorem dX4_isSame_179 : decode cX4_isSame 179 = .ok (.invokevirtual 60, 3) := by decide +kernel
theorem dX4_isSame_182 : decode cX4_isSame 182 = .ok (.aload 7, 2) := by decide +kernel
theorem dX4_isSame_184 : decode cX4_isSame 184 = .ok (.iconst 2, 1) := by decide +kernel
theorem dX4_isSame_185 : decode cX4_isSame 185 = .ok (.iaload, 1) := by decide +kernel
theorem dX4_isSame_186 : decode cX4_isSame 186 = .ok (.if_icmp .ne 151, 3) := by decide +kernel
theorem dX4_isSame_189 : decode cX4_isSame 189 = .ok (.aload_n 1, 1) := by decide +kernel
theorem dX4_isSame_190 : decode cX4_isSame 190 = .ok (.iload 6, 2) := by decide +kernel
theorem dX4_isSame_192 : decode cX4_isSame 192 = .ok (.invokevirtual 63, 3) := by decide +kernel
theorem dX4_isSame_195 : decode cX4_isSame 195 = .ok (.aload 7, 2) := by decide +kernel
theorem dX4_isSame_197 : decode cX4_isSame 197 = .ok (.iconst 3, 1) := by decide +kernel
theorem dX4_isSame_198 : decode cX4_isSame 198 = .ok (.iaload, 1) := by decide +kernel
theorem dX4_isSame_199 : decode cX4_isSame 199 = .ok (.if_icmp .ne 138, 3) := by decide +kernel
theorem dX4_isSame_202 : decode cX4_isSame 202 = .ok (.aload_n 1, 1) := by decide +kernel
theorem dX4_isSame_203 : decode cX4_isSame 203 = .ok (.iload 6, 2) := by decide +kernel
theorem dX4_isSame_205 : decode cX4_isSame 205 = .ok (.invokevirtual 66, 3) := by decide +kernel
theorem dX4_isSame_208 : decode cX4_isSame 208 = .ok (.aload 7, 2) := by decide +kernel
theorem dX4_isSame_210 : decode cX4_isSame 210 = .ok (.iconst 4, 1) := by decide +kernel
theorem dX4_isSame_211 : decode cX4_isSame 211 = .ok (.iaload, 1) := by decide +kernel
theorem dX4_isSame_212 : decode cX4_isSame 212 = .ok (.if_icmp .ne 125, 3) := by decide +kernel
theorem dX4_isSame_215 : decode cX4_isSame 215 = .ok (.aload_n 1, 1) := by decide +kernel
theorem dX4_isSame_216 : decode cX4_isSame 216 = .ok (.iload 6, 2) := by decide +kernel
theorem dX4_isSame_218 : decode cX4_isSame 218 = .ok (.invokevirtual 69, 3) := by decide +kernel
theorem dX4_isSame_221 : decode cX4_isSame 221 = .ok (.aload 7, 2) := by decide +kernel
theorem dX4_isSame_223 : decode cX4_isSame 223 = .ok (.iconst 1, 1) := by decide +kernel
theorem dX4_isSame_224 : decode cX4_isSame 224 = .ok (.iaload, 1) := by decide +kernel
theorem dX4_isSame_225 : decode cX4_isSame 225 = .ok (.aload 7, 2) := by decide +kernel
theorem dX4_isSame_227 : decode cX4_isSame 227 = .ok (.iconst 4, 1) := by decide +kernel
theorem dX4_isSame_228 : decode cX4_isSame 228 = .ok (.iaload, 1) := by decide +kernel
theorem dX4_isSame_229 : decode cX4_isSame 229 = .ok (.isub, 1) := by decide +kernel
theorem dX4_isSame_230 : decode cX4_isSame 230 = .ok (.if_icmp .ne 107, 3) := by decide +kernel
theorem dX4_isSame_233 : decode cX4_isSame 233 = .ok (.aload_n 1, 1) := by decide +kernel
theorem dX4_isSame_234 : decode cX4_isSame 234 = .ok (.iload 6, 2) := by decide +kernel
theorem dX4_isSame_236 : decode cX4_isSame 236 = .ok (.invokevirtual 72, 3) := by decide +kernel
theorem dX4_isSame_239 : decode cX4_isSame 239 = .ok (.aload 7, 2) := by decide +kernel
theorem dX4_isSame_241 : decode cX4_isSame 241 = .ok (.iconst 2, 1) := by decide +kernel
theorem dX4_isSame_242 : decode cX4_isSame 242 = .ok (.iaload, 1) := by decide +kernel
theorem dX4_isSame_243 : decode cX4_isSame 243 = .ok (.ifCond .lt 15, 3) := by decide +kernel
theorem dX4_isSame_246 : decode cX4_isSame 246 = .ok (.aload 7, 2) := by decide +kernel
theorem dX4_isSame_248 : decode cX4_isSame 248 = .ok (.iconst 5, 1) := by decide +kernel
theorem dX4_isSame_249 : decode cX4_isSame 249 = .ok (.iaload, 1) := by decide +kernel
theorem dX4_isSame_250 : decode cX4_isSame 250 = .ok (.iconst 1, 1) := by decide +kernel
theorem dX4_isSame_251 : decode cX4_isSame 251 = .ok (.if_icmp .ne 7, 3) := by decide +kernel
theorem dX4_isSame_254 : decode cX4_isSame 254 = .ok (.iconst 1, 1) := by decide +kernel
theorem dX4_isSame_255 : decode cX4_isSame 255 = .ok (.goto 4, 3) := by decide +kernel
theorem dX4_isSame_258 : decode cX4_isSame 258 = .ok (.iconst 0, 1) := by decide +kernel
theorem dX4_isSame_259 : decode cX4_isSame 259 = .ok (.if_icmp .ne 78, 3) := by decide +kernel
theorem dX4_isSame_262 : decode cX4_isSame 262 = .ok (.aload_n 1, 1) := by decide +kernel
theorem dX4_isSame_263 : decode cX4_isSame 263 = .ok (.iload 6, 2) := by decide +kernel
theorem dX4_isSame_265 : decode cX4_isSame 265 = .ok (.invokevirtual 76, 3) := by decide +kernel
theorem dX4_isSame_268 : decode cX4_isSame 268 = .ok (.aload 7, 2) := by decide +kernel
theorem dX4_isSame_270 : decode cX4_isSame 270 = .ok (.iconst 2, 1) := by decide +kernel
theorem dX4_isSame_271 : decode cX4_isSame 271 = .ok (.iaload, 1) := by decide +kernel
theorem dX4_isSame_272 : decode cX4_isSame 272 = .ok (.ifCond .lt 15, 3) := by decide +kernel
theorem dX4_isSame_275 : decode cX4_isSame 275 = .ok (.aload 7, 2) := by decide +kernel
theorem dX4_isSame_277 : decode cX4_isSame 277 = .ok (.iconst 5, 1) := by decide +kernel
theorem dX4_isSame_278 : decode cX4_isSame 278 = .ok (.iaload, 1) := by decide +kernel
theorem dX4_isSame_279 : decode cX4_isSame 279 = .ok (.iconst 2, 1) := by decide +kernel
theorem dX4_isSame_280 : decode cX4_isSame 280 = .ok (.if_icmp .ne 7, 3) := by decide +kernel
theorem dX4_isSame_283 : decode cX4_isSame 283 = .ok (.iconst 1, 1) := by decide +kernel
theorem dX4_isSame_284 : decode cX4_isSame 284 = .ok (.goto 4, 3) := by decide +kernel
theorem dX4_isSame_287 : decode cX4_isSame 287 = .ok (.iconst 0, 1) := by decide +kernel
theorem dX4_isSame_288 : decode cX4_isSame 288 = .ok (.if_icmp .ne 49, 3) := by decide +kernel
theorem dX4_isSame_291 : decode cX4_isSame 291 = .ok (.aload_n 1, 1) := by decide +kernel
theorem dX4_isSame_292 : decode cX4_isSame 292 = .ok (.iload 6, 2) := by decide +kernel
theorem dX4_isSame_294 : decode cX4_isSame 294 = .ok (.invokevirtual 79, 3) := by decide +kernel
theorem dX4_isSame_297 : decode cX4_isSame 297 = .ok (.aload 7, 2) := by decide +kernel
theorem dX4_isSame_299 : decode cX4_isSame 299 = .ok (.bipush 6, 2) := by decide +kernel
theorem dX4_isSame_301 : decode cX4_isSame 301 = .ok (.iaload, 1) := by decide +kernel
theorem dX4_isSame_302 : decode cX4_isSame 302 = .ok (.iconst 1, 1) := by decide +kernel
theorem dX4_isSame_303 : decode cX4_isSame 303 = .ok (.if_icmp .ne 7, 3) := by decide +kernel
theorem dX4_isSame_306 : decode cX4_isSame 306 = .ok (.iconst 1, 1) := by decide +kernel
theorem dX4_isSame_307 : decode cX4_isSame 307 = .ok (.goto 4, 3) := by decide +kernel
theorem dX4_isSame_310 : decode cX4_isSame 310 = .ok (.iconst 0, 1) := by decide +kernel
theorem dX4_isSame_311 : decode cX4_isSame 311 = .ok (.if_icmp .ne 26, 3) := by decide +kernel
theorem dX4_isSame_314 : decode cX4_isSame 314 = .ok (.aload_n 1, 1) := by decide +kernel
theorem dX4_isSame_315 : decode cX4_isSame 315 = .ok (.iload 6, 2) := by decide +kernel
theorem dX4_isSame_317 : decode cX4_isSame 317 = .ok (.invokevirtual 82, 3) := by decide +kernel
theorem dX4_isSame_320 : decode cX4_isSame 320 = .ok (.aload 7, 2) := by decide +kernel
theorem dX4_isSame_322 : decode cX4_isSame 322 = .ok (.bipush 6, 2) := by decide +kernel
theorem dX4_isSame_324 : decode cX4_isSame 324 = .ok (.iaload, 1) := by decide +kernel
theorem dX4_isSame_325 : decode cX4_isSame 325 = .ok (.iconst 2, 1) := by decide +kernel
theorem dX4_isSame_326 : decode cX4_isSame 326 = .ok (.if_icmp .ne 7, 3) := by decide +kernel
theorem dX4_isSame_329 : decode cX4_isSame 329 = .ok (.iconst 1, 1) := by decide +kernel
theorem dX4_isSame_330 : decode cX4_isSame 330 = .ok (.goto 4, 3) := by decide +kernel
theorem dX4_isSame_333 : decode cX4_isSame 333 = .ok (.iconst 0, 1) := by decide +kernel
theorem dX4_isSame_334 : decode cX4_isSame 334 = .ok (.if_icmp .eq 5, 3) := by decide +kernel
theorem dX4_isSame_337 : decode cX4_isSame 337 = .ok (.iconst 0, 1) := by decide +kernel
theorem dX4_isSame_338 : decode cX4_isSame 338 = .ok (.ireturn, 1) := by decide +kernel
theorem dX4_isSame_339 : decode cX4_isSame 339 = .ok (.aload 4, 2) := by decide +kernel
theorem dX4_isSame_341 : decode cX4_isSame 341 = .ok (.aload 7, 2) := by decide +kernel
theorem dX4_isSame_343 : decode cX4_isSame 343 = .ok (.iconst 0, 1) := by decide +kernel
theorem dX4_isSame_344 : decode cX4_isSame 344 = .ok (.iaload, 1) := by decide +kernel
theorem dX4_isSame_345 : decode cX4_isSame 345 = .ok (.dup2, 1) := by decide +kernel
theorem dX4_isSame_346 : decode cX4_isSame 346 = .ok (.iaload, 1) := by decide +kernel
theorem dX4_isSame_347 : decode cX4_isSame 347 = .ok (.aload 7, 2) := by decide +kernel
theorem dX4_isSame_349 : decode cX4_isSame 349 = .ok (.iconst 2, 1) := by decide +kernel
theorem dX4_isSame_350 : decode cX4_isSame 350 = .ok (.iaload, 1) := by decide +kernel
theorem dX4_isSame_351 : decode cX4_isSame 351 = .ok (.ifCond .lt 7, 3) := by decide +kernel
theorem dX4_isSame_354 : decode cX4_isSame 354 = .ok (.iconst 1, 1) := by decide +kernel
theorem dX4_isSame_355 : decode cX4_isSame 355 = .ok (.goto 4, 3) := by decide +kernel
theorem dX4_isSame_358 : decode cX4_isSame 358 = .ok (.iconst 0, 1) := by decide +kernel
theorem dX4_isSame_359 : decode cX4_isSame 359 = .ok (.iadd, 1) := by decide +kernel
theorem dX4_isSame_360 : decode cX4_isSame 360 = .ok (.iastore, 1) := by decide +kernel
theorem dX4_isSame_361 : decode cX4_isSame 361 = .ok (.aload 5, 2) := by decide +kernel
theorem dX4_isSame_363 : decode cX4_isSame 363 = .ok (.aload 7, 2) := by decide +kernel
theorem dX4_isSame_365 : decode cX4_isSame 365 = .ok (.iconst 0, 1) := by decide +kernel
theorem dX4_isSame_366 : decode cX4_isSame 366 = .ok (.iaload, 1) := by decide +kernel
theorem dX4_isSame_367 : decode cX4_isSame 367 = .ok (.dup2, 1) := by decide +kernel
theorem dX4_isSame_368 : decode cX4_isSame 368 = .ok (.iaload, 1) := by decide +kernel
theorem dX4_isSame_369 : decode cX4_isSame 369 = .ok (.aload 7, 2) := by decide +kernel
theorem dX4_isSame_371 : decode cX4_isSame 371 = .ok (.bipush 6, 2) := by decide +kernel
theorem dX4_isSame_373 : decode cX4_isSame 373 = .ok (.iaload, 1) := by decide +kernel
theorem dX4_isSame_374 : decode cX4_isSame 374 = .ok (.iconst 1, 1) := by decide +kernel
theorem dX4_isSame_375 : decode cX4_isSame 375 = .ok (.if_icmp .ne 7, 3) := by decide +kernel
theorem dX4_isSame_378 : decode cX4_isSame 378 = .ok (.iconst 1, 1) := by decide +kernel
theorem dX4_isSame_379 : decode cX4_isSame 379 = .ok (.goto 17, 3) := by decide +kernel
theorem dX4_isSame_382 : decode cX4_isSame 382 = .ok (.aload 7, 2) := by decide +kernel
theorem dX4_isSame_384 : decode cX4_isSame 384 = .ok (.bipush 6, 2) := by decide +kernel
theorem dX4_isSame_386 : decode cX4_isSame 386 = .ok (.iaload, 1) := by decide +kernel
theorem dX4_isSame_387 : decode cX4_isSame 387 = .ok (.iconst 2, 1) := by decide +kernel
theorem dX4_isSame_388 : decode cX4_isSame 388 = .ok (.if_icmp .ne 7, 3) := by decide +kernel
theorem dX4_isSame_391 : decode cX4_isSame 391 = .ok (.iconst (-1), 1) := by decide +kernel
theorem dX4_isSame_392 : decode cX4_isSame 392 = .ok (.goto 4, 3) := by decide +kernel
theorem dX4_isSame_395 : decode cX4_isSame 395 = .ok (.iconst 0, 1) := by decide +kernel
theorem dX4_isSame_396 : decode cX4_isSame 396 = .ok (.iadd, 1) := by decide +kernel
theorem dX4_isSame_397 : decode cX4_isSame 397 = .ok (.iastore, 1) := by decide +kernel
theorem dX4_isSame_398 : decode cX4_isSame 398 = .ok (.iload_n 3, 1) := by decide +kernel
theorem dX4_isSame_399 : decode cX4_isSame 399 = .ok (.aload 7, 2) := by decide +kernel
theorem dX4_isSame_401 : decode cX4_isSame 401 = .ok (.iconst 2, 1) := by decide +kernel
theorem dX4_isSame_402 : decode cX4_isSame 402 = .ok (.iaload, 1) := by decide +kernel
theorem dX4_isSame_403 : decode cX4_isSame 403 = .ok (.ifCond .lt 10, 3) := by decide +kernel
theorem dX4_isSame_406 : decode cX4_isSame 406 = .ok (.aload 7, 2) := by decide +kernel
theorem dX4_isSame_408 : decode cX4_isSame 408 = .ok (.iconst 3, 1) := by decide +kernel
theorem dX4_isSame_409 : decode cX4_isSame 409 = .ok (.iaload, 1) := by decide +kernel
theorem dX4_isSame_410 : decode cX4_isSame 410 = .ok (.goto 4, 3) := by decide +kernel
theorem dX4_isSame_413 : decode cX4_isSame 413 = .ok (.iconst 0, 1) := by decide +kernel
theorem dX4_isSame_414 : decode cX4_isSame 414 = .ok (.iadd, 1) := by decide +kernel
theorem dX4_isSame_415 : decode cX4_isSame 415 = .ok (.istore_n 3, 1) := by decide +kernel
theorem dX4_isSame_416 : decode cX4_isSame 416 = .ok (.iinc 6 1, 3) := by decide +kernel
theorem dX4_isSame_419 : decode cX4_isSame 419 = .ok (.goto (-275), 3) := by decide +kernel
theorem dX4_isSame_422 : decode cX4_isSame 422 = .ok (.iconst 0, 1) := by decide +kernel
theorem dX4_isSame_423 : decode cX4_isSame 423 = .ok (.istore 6, 2) := by decide +kernel
theorem dX4_isSame_425 : decode cX4_isSame 425 = .ok (.iconst 0, 1) := by decide +kernel
theorem dX4_isSame_426 : decode cX4_isSame 426 = .ok (.istore 7, 2) := by decide +kernel
theorem dX4_isSame_428 : decode cX4_isSame 428 = .ok (.iload 7, 2) := by decide +kernel
theorem dX4_isSame_430 : decode cX4_isSame 430 = .ok (.bipush 6, 2) := by decide +kernel
theorem dX4_isSame_432 : decode cX4_isSame 432 = .ok (.if_icmp .ge 56, 3) := by decide +kernel
theorem dX4_isSame_435 : decode cX4_isSame 435 = .ok (.aload_n 1, 1) := by decide +kernel
theorem dX4_isSame_436 : decode cX4_isSame 436 = .ok (.iload 7, 2) := by decide +kernel
theorem dX4_isSame_438 : decode cX4_isSame 438 = .ok (.invokevirtual 85, 3) := by decide +kernel
theorem dX4_isSame_441 : decode cX4_isSame 441 = .ok (.aload 4, 2) := by decide +kernel
theorem dX4_isSame_443 : decode cX4_isSame 443 = .ok (.iload 7, 2) := by decide +kernel
theorem dX4_isSame_445 : decode cX4_isSame 445 = .ok (.iaload, 1) := by decide +kernel
theorem dX4_isSame_446 : decode cX4_isSame 446 = .ok (.if_icmp .ne 17, 3) := by decide +kernel
theorem dX4_isSame_449 : decode cX4_isSame 449 = .ok (.aload_n 1, 1) := by decide +kernel
theorem dX4_isSame_450 : decode cX4_isSame 450 = .ok (.iload 7, 2) := by decide +kernel
theorem dX4_isSame_452 : decode cX4_isSame 452 = .ok (.invokevirtual 88, 3) := by decide +kernel
theorem dX4_isSame_455 : decode cX4_isSame 455 = .ok (.aload 5, 2) := by decide +kernel
theorem dX4_isSame_457 : decode cX4_isSame 457 = .ok (.iload 7, 2) := by decide +kernel
theorem dX4_isSame_459 : decode cX4_isSame 459 = .ok (.iaload, 1) := by decide +kernel
theorem dX4_isSame_460 : decode cX4_isSame 460 = .ok (.if_icmp .eq 5, 3) := by decide +kernel
theorem dX4_isSame_463 : decode cX4_isSame 463 = .ok (.iconst 0, 1) := by decide +kernel
theorem dX4_isSame_464 : decode cX4_isSame 464 = .ok (.ireturn, 1) := by decide +kernel
theorem dX4_isSame_465 : decode cX4_isSame 465 = .ok (.aload 5, 2) := by decide +kernel
theorem dX4_isSame_467 : decode cX4_isSame 467 = .ok (.iload 7, 2) := by decide +kernel
theorem dX4_isSame_469 : decode cX4_isSame 469 = .ok (.iaload, 1) := by decide +kernel
theorem dX4_isSame_470 : decode cX4_isSame 470 = .ok (.aload 5, 2) := by decide +kernel
theorem dX4_isSame_472 : decode cX4_isSame 472 = .ok (.iload 6, 2) := by decide +kernel
theorem dX4_isSame_474 : decode cX4_isSame 474 = .ok (.iaload, 1) := by decide +kernel
theorem dX4_isSame_475 : decode cX4_isSame 475 = .ok (.if_icmp .le 7, 3) := by decide +kernel
theorem dX4_isSame_478 : decode cX4_isSame 478 = .ok (.iload 7, 2) := by decide +kernel
theorem dX4_isSame_480 : decode cX4_isSame 480 = .ok (.istore 6, 2) := by decide +kernel
theorem dX4_isSame_482 : decode cX4_isSame 482 = .ok (.iinc 7 1, 3) := by decide +kernel
theorem dX4_isSame_485 : decode cX4_isSame 485 = .ok (.goto (-57), 3) := by decide +kernel
theorem dX4_isSame_488 : decode cX4_isSame 488 = .ok (.aload_n 1, 1) := by decide +kernel
theorem dX4_isSame_489 : decode cX4_isSame 489 = .ok (.invokevirtual 91, 3) := by decide +kernel
theorem dX4_isSame_492 : decode cX4_isSame 492 = .ok (.aload_n 0, 1) := by decide +kernel
theorem dX4_isSame_493 : decode cX4_isSame 493 = .ok (.getfield 30, 3) := by decide +kernel
theorem dX4_isSame_496 : decode cX4_isSame 496 = .ok (.if_icmp .ne 85, 3) := by decide +kernel
theorem dX4_isSame_499 : decode cX4_isSame 499 = .ok (.aload_n 1, 1) := by decide +kernel
theorem dX4_isSame_500 : decode cX4_isSame 500 = .ok (.invokevirtual 93, 3) := by decide +kernel
theorem dX4_isSame_503 : decode cX4_isSame 503 = .ok (.aload_n 0, 1) := by decide +kernel
theorem dX4_isSame_504 : decode cX4_isSame 504 = .ok (.getfield 7, 3) := by decide +kernel
theorem dX4_isSame_507 : decode cX4_isSame 507 = .ok (.if_icmp .ne 74, 3) := by decide +kernel
theorem dX4_isSame_510 : decode cX4_isSame 510 = .ok (.aload_n 1, 1) := by decide +kernel
theorem dX4_isSame_511 : decode cX4_isSame 511 = .ok (.invokevirtual 96, 3) := by decide +kernel
theorem dX4_isSame_514 : decode cX4_isSame 514 = .ok (.aload_n 0, 1) := by decide +kernel
theorem dX4_isSame_515 : decode cX4_isSame 515 = .ok (.getfield 34, 3) := by decide +kernel
theorem dX4_isSame_518 : decode cX4_isSame 518 = .ok (.if_icmp .ne 63, 3) := by decide +kernel
theorem dX4_isSame_521 : decode cX4_isSame 521 = .ok (.aload_n 1, 1) := by decide +kernel
theorem dX4_isSame_522 : decode cX4_isSame 522 = .ok (.invokevirtual 98, 3) := by decide +kernel
theorem dX4_isSame_525 : decode cX4_isSame 525 = .ok (.aload_n 0, 1) := by decide +kernel
theorem dX4_isSame_526 : decode cX4_isSame 526 = .ok (.getfield 21, 3) := by decide +kernel
theorem dX4_isSame_529 : decode cX4_isSame 529 = .ok (.arraylength, 1) := by decide +kernel
theorem dX4_isSame_530 : decode cX4_isSame 530 = .ok (.if_icmp .ne 51, 3) := by decide +kernel
theorem dX4_isSame_533 : decode cX4_isSame 533 = .ok (.aload_n 1, 1) := by decide +kernel
theorem dX4_isSame_534 : decode cX4_isSame 534 = .ok (.invokevirtual 101, 3) := by decide +kernel
theorem dX4_isSame_537 : decode cX4_isSame 537 = .ok (.iload_n 2, 1) := by decide +kernel
theorem dX4_isSame_538 : decode cX4_isSame 538 = .ok (.if_icmp .ne 43, 3) := by decide +kernel
theorem dX4_isSame_541 : decode cX4_isSame 541 = .ok (.aload_n 1, 1) := by decide +kernel
theorem dX4_isSame_542 : decode cX4_isSame 542 = .ok (.invokevirtual 104, 3) := by decide +kernel
theorem dX4_isSame_545 : decode cX4_isSame 545 = .ok (.iload 6, 2) := by decide +kernel
theorem dX4_isSame_547 : decode cX4_isSame 547 = .ok (.if_icmp .ne 34, 3) := by decide +kernel
theorem dX4_isSame_550 : decode cX4_isSame 550 = .ok (.aload_n 1, 1) := by decide +kernel
theorem dX4_isSame_551 : decode cX4_isSame 551 = .ok (.invokevirtual 107, 3) := by decide +kernel
theorem dX4_isSame_554 : decode cX4_isSame 554 = .ok (.aload_n 0, 1) := by decide +kernel
theorem dX4_isSame_555 : decode cX4_isSame 555 = .ok (.invokevirtual 111, 3) := by decide +kernel
theorem dX4_isSame_558 : decode cX4_isSame 558 = .ok (.ifCond .ne 7, 3) := by decide +kernel
theorem dX4_isSame_561 : decode cX4_isSame 561 = .ok (.dconst 0, 1) := by decide +kernel
theorem dX4_isSame_562 : decode cX4_isSame 562 = .ok (.goto 11, 3) := by decide +kernel
theorem dX4_isSame_565 : decode cX4_isSame 565 = .ok (.iload_n 3, 1) := by decide +kernel
theorem dX4_isSame_566 : decode cX4_isSame 566 = .ok (.i2d, 1) := by decide +kernel
theorem dX4_isSame_567 : decode cX4_isSame 567 = .ok (.aload_n 0, 1) := by decide +kernel
theorem dX4_isSame_568 : decode cX4_isSame 568 = .ok (.invokevirtual 111, 3) := by decide +kernel
theorem dX4_isSame_571 : decode cX4_isSame 571 = .ok (.i2d, 1) := by decide +kernel
theorem dX4_isSame_572 : decode cX4_isSame 572 = .ok (.ddiv, 1) := by decide +kernel
theorem dX4_isSame_573 : decode cX4_isSame 573 = .ok (.dcmp .l, 1) := by decide +kernel
theorem dX4_isSame_574 : decode cX4_isSame 574 = .ok (.ifCond .ne 7, 3) := by decide +kernel
theorem dX4_isSame_577 : decode cX4_isSame 577 = .ok (.iconst 1, 1) := by decide +kernel
theorem dX4_isSame_578 : decode cX4_isSame 578 = .ok (.goto 4, 3) := by decide +kernel
theorem dX4_isSame_581 : decode cX4_isSame 581 = .ok (.iconst 0, 1) := by decide +kernel
theorem dX4_isSame_582 : decode cX4_isSame 582 = .ok (.ireturn, 1) := by decide +kernel
theorem dJ9_abs_0f7a4_0 : decode cJ9_abs_0f7a4 0 = .ok (.iload_n 0, 1) := by decide +kernel
theorem dJ9_abs_0f7a4_1 : decode cJ9_abs_0f7a4 1 = .ok (.ifCond .ge 8, 3) := by decide +kernel
theorem dJ9_abs_0f7a4_4 : decode cJ9_abs_0f7a4 4 = .ok (.iload_n 0, 1) := by decide +kernel
theorem dJ9_abs_0f7a4_5 : decode cJ9_abs_0f7a4 5 = .ok (.ineg, 1) := by decide +kernel
theorem dJ9_abs_0f7a4_6 : decode cJ9_abs_0f7a4 6 = .ok (.goto 4, 3) := by decide +kernel
theorem dJ9_abs_0f7a4_9 : decode cJ9_abs_0f7a4 9 = .ok (.iload_n 0, 1) := by decide +kernel
theorem dJ9_abs_0f7a4_10 : decode cJ9_abs_0f7a4 10 = .ok (.ireturn, 1) := by decide +kernel
theorem dJ9_max_7cf53_0 : decode cJ9_max_7cf53 0 = .ok (.iload_n 0, 1) := by decide +kernel
theorem dJ9_max_7cf53_1 : decode cJ9_max_7cf53 1 = .ok (.iload_n 1, 1) := by decide +kernel
theorem dJ9_max_7cf53_2 : decode cJ9_max_7cf53 2 = .ok (.if_icmp .lt 7, 3) := by decide +kernel
theorem dJ9_max_7cf53_5 : decode cJ9_max_7cf53 5 = .ok (.iload_n 0, 1) := by decide +kernel
theorem dJ9_max_7cf53_6 : decode cJ9_max_7cf53 6 = .ok (.goto 4, 3) := by decide +kernel
theorem dJ9_max_7cf53_9 : decode cJ9_max_7cf53 9 = .ok (.iload_n 1, 1) := by decide +kernel
theorem dJ9_max_7cf53_10 : decode cJ9_max_7cf53 10 = .ok (.ireturn, 1) := by decide +kernel
theorem dJ9_min_7cf53_0 : decode cJ9_min_7cf53 0 = .ok (.iload_n 0, 1) := by decide +kernel
theorem dJ9_min_7cf53_1 : decode cJ9_min_7cf53 1 = .ok (.iload_n 1, 1) := by decide +kernel
theorem dJ9_min_7cf53_2 : decode cJ9_min_7cf53 2 = .ok (.if_icmp .gt 7, 3) := by decide +kernel
theorem dJ9_min_7cf53_5 : decode cJ9_min_7cf53 5 = .ok (.iload_n 0, 1) := by decide +kernel
theorem dJ9_min_7cf53_6 : decode cJ9_min_7cf53 6 = .ok (.goto 4, 3) := by decide +kernel
theorem dJ9_min_7cf53_9 : decode cJ9_min_7cf53 9 = .ok (.iload_n 1, 1) := by decide +kernel
theorem dJ9_min_7cf53_10 : decode cJ9_min_7cf53 10 = .ok (.ireturn, 1) := by decide +kernel
theorem dL_below_0 : decode cL_below 0 = .ok (.iload_n 0, 1) := by decide +kernel
theorem dL_below_1 : decode cL_below 1 = .ok (.ldc 7, 2) := by decide +kernel
theorem dL_below_3 : decode cL_below 3 = .ok (.iand, 1) := by decide +kernel
theorem dL_below_4 : decode cL_below 4 = .ok (.iload_n 1, 1) := by decide +kernel
theorem dL_below_5 : decode cL_below 5 = .ok (.irem, 1) := by decide +kernel
theorem dL_below_6 : decode cL_below 6 = .ok (.ireturn, 1) := by decide +kernel
theorem dL_cell_0 : decode cL_cell 0 = .ok (.iload_n 1, 1) := by decide +kernel
theorem dL_cell_1 : decode cL_cell 1 = .ok (.aload_n 0, 1) := by decide +kernel
theorem dL_cell_2 : decode cL_cell 2 = .ok (.arraylength, 1) := by decide +kernel
theorem dL_cell_3 : decode cL_cell 3 = .ok (.if_icmp .ge 9, 3) := by decide +kernel
theorem dL_cell_6 : decode cL_cell 6 = .ok (.aload_n 0, 1) := by decide +kernel
theorem dL_cell_7 : decode cL_cell 7 = .ok (.iload_n 1, 1) := by decide +kernel
theorem dL_cell_8 : decode cL_cell 8 = .ok (.iaload, 1) := by decide +kernel
theorem dL_cell_9 : decode cL_cell 9 = .ok (.goto 9, 3) := by decide +kernel
theorem dL_cell_12 : decode cL_cell 12 = .ok (.ldc 8, 2) := by decide +kernel
theorem dL_cell_14 : decode cL_cell 14 = .ok (.iload_n 1, 1) := by decide +kernel
theorem dL_cell_15 : decode cL_cell 15 = .ok (.iconst 3, 1) := by decide +kernel
theorem dL_cell_16 : decode cL_cell 16 = .ok (.iadd, 1) := by decide +kernel
theorem dL_cell_17 : decode cL_cell 17 = .ok (.imul, 1) := by decide +kernel
theorem dL_cell_18 : decode cL_cell 18 = .ok (.ireturn, 1) := by decide +kernel
theorem dL_act_0 : decode cL_act 0 = .ok (.aload_n 1, 1) := by decide +kernel
theorem dL_act_1 : decode cL_act 1 = .ok (.getfield 9, 3) := by decide +kernel
theorem dL_act_4 : decode cL_act 4 = .ok (.arraylength, 1) := by decide +kernel
theorem dL_act_5 : decode cL_act 5 = .ok (.istore_n 3, 1) := by decide +kernel
theorem dL_act_6 : decode cL_act 6 = .ok (.iload_n 2, 1) := by decide +kernel
theorem dL_act_7 : decode cL_act 7 = .ok (.iconst 4, 1) := by decide +kernel
theorem dL_act_8 : decode cL_act 8 = .ok (.ishr, 1) := by decide +kernel
theorem dL_act_9 : decode cL_act 9 = .ok (.iconst 5, 1) := by decide +kernel
theorem dL_act_10 : decode cL_act 10 = .ok (.invokestatic 15, 3) := by decide +kernel
theorem dL_act_13 : decode cL_act 13 = .ok (.istore 4, 2) := by decide +kernel
theorem dL_act_15 : decode cL_act 15 = .ok (.iload_n 3, 1) := by decide +kernel
theorem dL_act_16 : decode cL_act 16 = .ok (.ifCond .ne 7, 3) := by decide +kernel
theorem dL_act_19 : decode cL_act 19 = .ok (.iconst 0, 1) := by decide +kernel
theorem dL_act_20 : decode cL_act 20 = .ok (.goto 11, 3) := by decide +kernel
theorem dL_act_23 : decode cL_act 23 = .ok (.iload_n 2, 1) := by decide +kernel
theorem dL_act_24 : decode cL_act 24 = .ok (.bipush 6, 2) := by decide +kernel
theorem dL_act_26 : decode cL_act 26 = .ok (.ishr, 1) := by decide +kernel
theorem dL_act_27 : decode cL_act 27 = .ok (.iload_n 3, 1) := by decide +kernel
theorem dL_act_28 : decode cL_act 28 = .ok (.invokestatic 15, 3) := by decide +kernel
theorem dL_act_31 : decode cL_act 31 = .ok (.istore 5, 2) := by decide +kernel
theorem dL_act_33 : decode cL_act 33 = .ok (.iconst 1, 1) := by decide +kernel
theorem dL_act_34 : decode cL_act 34 = .ok (.istore 6, 2) := by decide +kernel
theorem dL_act_36 : decode cL_act 36 = .ok (.iload_n 3, 1) := by decide +kernel
theorem dL_act_37 : decode cL_act 37 = .ok (.ifCond .ne 7, 3) := by decide +kernel
theorem dL_act_40 : decode cL_act 40 = .ok (.iconst 0, 1) := by decide +kernel
theorem dL_act_41 : decode cL_act 41 = .ok (.goto 9, 3) := by decide +kernel
theorem dL_act_44 : decode cL_act 44 = .ok (.iload_n 2, 1) := by decide +kernel
theorem dL_act_45 : decode cL_act 45 = .ok (.bipush 15, 2) := by decide +kernel
theorem dL_act_47 : decode cL_act 47 = .ok (.invokestatic 15, 3) := by decide +kernel
theorem dL_act_50 : decode cL_act 50 = .ok (.tableswitch 399 0 9 #[54, 54, 54, 145, 145, 238, 238, 314, 314, 366], 54) := by decide +kernel
theorem dL_act_104 : decode cL_act 104 = .ok (.iload_n 3, 1) := by decide +kernel
theorem dL_act_105 : decode cL_act 105 = .ok (.bipush 20, 2) := by decide +kernel
theorem dL_act_107 : decode cL_act 107 = .ok (.if_icmp .ge 7, 3) := by decide +kernel
theorem dL_act_110 : decode cL_act 110 = .ok (.iconst 1, 1) := by decide +kernel
theorem dL_act_111 : decode cL_act 111 = .ok (.goto 4, 3) := by decide +kernel
theorem dL_act_114 : decode cL_act 114 = .ok (.iconst 0, 1) := by decide +kernel
theorem dL_act_115 : decode cL_act 115 = .ok (.istore 6, 2) := by decide +kernel
theorem dL_act_117 : decode cL_act 117 = .ok (.iconst 1, 1) := by decide +kernel
theorem dL_act_118 : decode cL_act 118 = .ok (.iload_n 2, 1) := by decide +kernel
theorem dL_act_119 : decode cL_act 119 = .ok (.bipush 7, 2) := by decide +kernel
theorem dL_act_121 : decode cL_act 121 = .ok (.ishr, 1) := by decide +kernel
theorem dL_act_122 : decode cL_act 122 = .ok (.iload_n 2, 1) := by decide +kernel
theorem dL_act_123 : decode cL_act 123 = .ok (.iconst 3, 1) := by decide +kernel
theorem dL_act_124 : decode cL_act 124 = .ok (.ishr, 1) := by decide +kernel
theorem dL_act_125 : decode cL_act 125 = .ok (.iconst 2, 1) := by decide +kernel
theorem dL_act_126 : decode cL_act 126 = .ok (.invokestatic 15, 3) := by decide +kernel
theorem dL_act_129 : decode cL_act 129 = .ok (.ifCond .ne 8, 3) := by decide +kernel
theorem dL_act_132 : decode cL_act 132 = .ok (.bipush 100, 2) := by decide +kernel
theorem dL_act_134 : decode cL_act 134 = .ok (.goto 5, 3) := by decide +kernel
theorem dL_act_137 : decode cL_act 137 = .ok (.bipush 12, 2) := by decide +kernel
theorem dL_act_139 : decode cL_act 139 = .ok (.invokestatic 15, 3) := by decide +kernel
theorem dL_act_142 : decode cL_act 142 = .ok (.iadd, 1) := by decide +kernel
theorem dL_act_143 : decode cL_act 143 = .ok (.istore 7, 2) := by decide +kernel
theorem dL_act_145 : decode cL_act 145 = .ok (.iload_n 2, 1) := by decide +kernel
theorem dL_act_146 : decode cL_act 146 = .ok (.iconst 5, 1) := by decide +kernel
theorem dL_act_147 : decode cL_act 147 = .ok (.ishr, 1) := by decide +kernel
theorem dL_act_148 : decode cL_act 148 = .ok (.bipush 6, 2) := by decide +kernel
theorem dL_act_150 : decode cL_act 150 = .ok (.invokestatic 15, 3) := by decide +kernel
theorem dL_act_153 : decode cL_act 153 = .ok (.istore 8, 2) := by decide +kernel
theorem dL_act_155 : decode cL_act 155 = .ok (.iload 6, 2) := by decide +kernel
theorem dL_act_157 : decode cL_act 157 = .ok (.ifCond .eq 13, 3) := by decide +kernel
theorem dL_act_160 : decode cL_act 160 = .ok (.aload_n 1, 1) := by decide +kernel
theorem dL_act_161 : decode cL_act 161 = .ok (.iload 8, 2) := by decide +kernel
theorem dL_act_163 : decode cL_act 163 = .ok (.iload 7, 2) := by decide +kernel
theorem dL_act_165 : decode cL_act 165 = .ok (.iload 4, 2) := by decide +kernel
theorem dL_act_167 : decode cL_act 167 = .ok (.invokevirtual 21, 3) := by decide +kernel
theorem dL_act_170 : decode cL_act 170 = .ok (.aload_n 0, 1) := by decide +kernel
theorem dL_act_171 : decode cL_act 171 = .ok (.iload 8, 2) := by decide +kernel
theorem dL_act_173 : decode cL_act 173 = .ok (.iload 7, 2) := by decide +kernel
theorem dL_act_175 : decode cL_act 175 = .ok (.iload 4, 2) := by decide +kernel
theorem dL_act_177 : decode cL_act 177 = .ok (.invokevirtual 25, 3) := by decide +kernel
theorem dL_act_180 : decode cL_act 180 = .ok (.iload_n 3, 1) := by decide +kernel
theorem dL_act_181 : decode cL_act 181 = .ok (.if_icmp .ne 12, 3) := by decide +kernel
theorem dL_act_184 : decode cL_act 184 = .ok (.iload 6, 2) := by decide +kernel
theorem dL_act_186 : decode cL_act 186 = .ok (.ifCond .eq 7, 3) := by decide +kernel
theorem dL_act_189 : decode cL_act 189 = .ok (.iconst 1, 1) := by decide +kernel
theorem dL_act_190 : decode cL_act 190 = .ok (.goto 4, 3) := by decide +kernel
theorem dL_act_193 : decode cL_act 193 = .ok (.iconst 0, 1) := by decide +kernel
theorem dL_act_194 : decode cL_act 194 = .ok (.ireturn, 1) := by decide +kernel
theorem dL_act_195 : decode cL_act 195 = .ok (.aload_n 1, 1) := by decide +kernel
theorem dL_act_196 : decode cL_act 196 = .ok (.getfield 9, 3) := by decide +kernel
theorem dL_act_199 : decode cL_act 199 = .ok (.iload 5, 2) := by decide +kernel
theorem dL_act_201 : decode cL_act 201 = .ok (.aaload, 1) := by decide +kernel
theorem dL_act_202 : decode cL_act 202 = .ok (.astore 7, 2) := by decide +kernel
theorem dL_act_204 : decode cL_act 204 = .ok (.aload 7, 2) := by decide +kernel
theorem dL_act_206 : decode cL_act 206 = .ok (.iconst 2, 1) := by decide +kernel
theorem dL_act_207 : decode cL_act 207 = .ok (.iaload, 1) := by decide +kernel
theorem dL_act_208 : decode cL_act 208 = .ok (.ifCond .lt 24, 3) := by decide +kernel
theorem dL_act_211 : decode cL_act 211 = .ok (.aload 7, 2) := by decide +kernel
theorem dL_act_213 : decode cL_act 213 = .ok (.iconst 2, 1) := by decide +kernel
theorem dL_act_214 : decode cL_act 214 = .ok (.iaload, 1) := by decide +kernel
theorem dL_act_215 : decode cL_act 215 = .ok (.iload 4, 2) := by decide +kernel
theorem dL_act_217 : decode cL_act 217 = .ok (.if_icmp .eq 15, 3) := by decide +kernel
theorem dL_act_220 : decode cL_act 220 = .ok (.aload 7, 2) := by decide +kernel
theorem dL_act_222 : decode cL_act 222 = .ok (.iconst 5, 1) := by decide +kernel
theorem dL_act_223 : decode cL_act 223 = .ok (.iaload, 1) := by decide +kernel
theorem dL_act_224 : decode cL_act 224 = .ok (.iconst 2, 1) := by decide +kernel
theorem dL_act_225 : decode cL_act 225 = .ok (.if_icmp .eq 7, 3) := by decide +kernel
theorem dL_act_228 : decode cL_act 228 = .ok (.iconst 1, 1) := by decide +kernel
theorem dL_act_229 : decode cL_act 229 = .ok (.goto 4, 3) := by decide +kernel
theorem dL_act_232 : decode cL_act 232 = .ok (.iconst 0, 1) := by decide +kernel
theorem dL_act_233 : decode cL_act 233 = .ok (.istore 6, 2) := by decide +kernel
theorem dL_act_235 : decode cL_act 235 = .ok (.aload 7, 2) := by decide +kernel
theorem dL_act_237 : decode cL_act 237 = .ok (.iconst 2, 1) := by decide +kernel
theorem dL_act_238 : decode cL_act 238 = .ok (.iaload, 1) := by decide +kernel
theorem dL_act_239 : decode cL_act 239 = .ok (.istore 8, 2) := by decide +kernel
theorem dL_act_241 : decode cL_act 241 = .ok (.iload 6, 2) := by decide +kernel
theorem dL_act_243 : decode cL_act 243 = .ok (.ifCond .eq 21, 3) := by decide +kernel
theorem dL_act_246 : decode cL_act 246 = .ok (.aload_n 1, 1) := by decide +kernel
theorem dL_act_247 : decode cL_act 247 = .ok (.iload 8, 2) := by decide +kernel
theorem dL_act_249 : decode cL_act 249 = .ok (.invokevirtual 31, 3) := by decide +kernel
theorem dL_act_252 : decode cL_act 252 = .ok (.aload_n 1, 1) := by decide +kernel
theorem dL_act_253 : decode cL_act 253 = .ok (.iload 4, 2) := by decide +kernel
theorem dL_act_255 : decode cL_act 255 = .ok (.invokevirtual 31, 3) := by decide +kernel
theorem dL_act_258 : decode cL_act 258 = .ok (.aload 7, 2) := by decide +kernel
theorem dL_act_260 : decode cL_act 260 = .ok (.iconst 2, 1) := by decide +kernel
theorem dL_act_261 : decode cL_act 261 = .ok (.iload 4, 2) := by decide +kernel
theorem dL_act_263 : decode cL_act 263 = .ok (.iastore, 1) := by decide +kernel
theorem dL_act_264 : decode cL_act 264 = .ok (.aload_n 0, 1) := by decide +kernel
theorem dL_act_265 : decode cL_act 265 = .ok (.iload 5, 2) := by decide +kernel
theorem dL_act_267 : decode cL_act 267 = .ok (.iload 4, 2) := by decide +kernel
theorem dL_act_269 : decode cL_act 269 = .ok (.invokevirtual 35, 3) := by decide +kernel
theorem dL_act_272 : decode cL_act 272 = .ok (.iload 8, 2) := by decide +kernel
theorem dL_act_274 : decode cL_act 274 = .ok (.if_icmp .ne 12, 3) := by decide +kernel
theorem dL_act_277 : decode cL_act 277 = .ok (.iload 6, 2) := by decide +kernel
theorem dL_act_279 : decode cL_act 279 = .ok (.ifCond .eq 7, 3) := by decide +kernel
theorem dL_act_282 : decode cL_act 282 = .ok (.iconst 1, 1) := by decide +kernel
theorem dL_act_283 : decode cL_act 283 = .ok (.goto 4, 3) := by decide +kernel
theorem dL_act_286 : decode cL_act 286 = .ok (.iconst 0, 1) := by decide +kernel
theorem dL_act_287 : decode cL_act 287 = .ok (.ireturn, 1) := by decide +kernel
theorem dL_act_288 : decode cL_act 288 = .ok (.aload_n 1, 1) := by decide +kernel
theorem dL_act_289 : decode cL_act 289 = .ok (.getfield 9, 3) := by decide +kernel
theorem dL_act_292 : decode cL_act 292 = .ok (.iload 5, 2) := by decide +kernel
theorem dL_act_294 : decode cL_act 294 = .ok (.aaload, 1) := by decide +kernel
theorem dL_act_295 : decode cL_act 295 = .ok (.astore 7, 2) := by decide +kernel
theorem dL_act_297 : decode cL_act 297 = .ok (.aload 7, 2) := by decide +kernel
theorem dL_act_299 : decode cL_act 299 = .ok (.iconst 2, 1) := by decide +kernel
theorem dL_act_300 : decode cL_act 300 = .ok (.iaload, 1) := by decide +kernel
theorem dL_act_301 : decode cL_act 301 = .ok (.ifCond .lt 7, 3) := by decide +kernel
theorem dL_act_304 : decode cL_act 304 = .ok (.iconst 1, 1) := by decide +kernel
theorem dL_act_305 : decode cL_act 305 = .ok (.goto 4, 3) := by decide +kernel
theorem dL_act_308 : decode cL_act 308 = .ok (.iconst 0, 1) := by decide +kernel
theorem dL_act_309 : decode cL_act 309 = .ok (.istore 6, 2) := by decide +kernel
theorem dL_act_311 : decode cL_act 311 = .ok (.iload 6, 2) := by decide +kernel
theorem dL_act_313 : decode cL_act 313 = .ok (.ifCond .eq 22, 3) := by decide +kernel
theorem dL_act_316 : decode cL_act 316 = .ok (.aload_n 1, 1) := by decide +kernel
theorem dL_act_317 : decode cL_act 317 = .ok (.aload 7, 2) := by decide +kernel
theorem dL_act_319 : decode cL_act 319 = .ok (.iconst 2, 1) := by decide +kernel
theorem dL_act_320 : decode cL_act 320 = .ok (.iaload, 1) := by decide +kernel
theorem dL_act_321 : decode cL_act 321 = .ok (.invokevirtual 31, 3) := by decide +kernel
theorem dL_act_324 : decode cL_act 324 = .ok (.aload 7, 2) := by decide +kernel
theorem dL_act_326 : decode cL_act 326 = .ok (.iconst 2, 1) := by decide +kernel
theorem dL_act_327 : decode cL_act 327 = .ok (.iconst (-1), 1) := by decide +kernel
theorem dL_act_328 : decode cL_act 328 = .ok (.iastore, 1) := by decide +kernel
theorem dL_act_329 : decode cL_act 329 = .ok (.aload 7, 2) := by decide +kernel
theorem dL_act_331 : decode cL_act 331 = .ok (.bipush 6, 2) := by decide +kernel
theorem dL_act_333 : decode cL_act 333 = .ok (.iconst 1, 1) := by decide +kernel
theorem dL_act_334 : decode cL_act 334 = .ok (.iastore, 1) := by decide +kernel
theorem dL_act_335 : decode cL_act 335 = .ok (.aload_n 0, 1) := by decide +kernel
theorem dL_act_336 : decode cL_act 336 = .ok (.iload 5, 2) := by decide +kernel
theorem dL_act_338 : decode cL_act 338 = .ok (.invokevirtual 38, 3) := by decide +kernel
theorem dL_act_341 : decode cL_act 341 = .ok (.aload 7, 2) := by decide +kernel
theorem dL_act_343 : decode cL_act 343 = .ok (.iconst 1, 1) := by decide +kernel
theorem dL_act_344 : decode cL_act 344 = .ok (.iaload, 1) := by decide +kernel
theorem dL_act_345 : decode cL_act 345 = .ok (.aload 7, 2) := by decide +kernel
theorem dL_act_347 : decode cL_act 347 = .ok (.iconst 4, 1) := by decide +kernel
theorem dL_act_348 : decode cL_act 348 = .ok (.iaload, 1) := by decide +kernel
theorem dL_act_349 : decode cL_act 349 = .ok (.isub, 1) := by decide +kernel
theorem dL_act_350 : decode cL_act 350 = .ok (.if_icmp .ne 12, 3) := by decide +kernel
theorem dL_act_353 : decode cL_act 353 = .ok (.iload 6, 2) := by decide +kernel
theorem dL_act_355 : decode cL_act 355 = .ok (.ifCond .eq 7, 3) := by decide +kernel
theorem dL_act_358 : decode cL_act 358 = .ok (.iconst 1, 1) := by decide +kernel
theorem dL_act_359 : decode cL_act 359 = .ok (.goto 4, 3) := by decide +kernel
theorem dL_act_362 : decode cL_act 362 = .ok (.iconst 0, 1) := by decide +kernel
theorem dL_act_363 : decode cL_act 363 = .ok (.ireturn, 1) := by decide +kernel
theorem dL_act_364 : decode cL_act 364 = .ok (.aload_n 1, 1) := by decide +kernel
theorem dL_act_365 : decode cL_act 365 = .ok (.getfield 42, 3) := by decide +kernel
theorem dL_act_368 : decode cL_act 368 = .ok (.iload 4, 2) := by decide +kernel
theorem dL_act_370 : decode cL_act 370 = .ok (.iaload, 1) := by decide +kernel
theorem dL_act_371 : decode cL_act 371 = .ok (.istore 7, 2) := by decide +kernel
theorem dL_act_373 : decode cL_act 373 = .ok (.aload_n 1, 1) := by decide +kernel
theorem dL_act_374 : decode cL_act 374 = .ok (.getfield 42, 3) := by decide +kernel
theorem dL_act_377 : decode cL_act 377 = .ok (.iload 4, 2) := by decide +kernel
theorem dL_act_379 : decode cL_act 379 = .ok (.iload_n 2, 1) := by decide +kernel
theorem dL_act_380 : decode cL_act 380 = .ok (.bipush 7, 2) := by decide +kernel
theorem dL_act_382 : decode cL_act 382 = .ok (.ishr, 1) := by decide +kernel
theorem dL_act_383 : decode cL_act 383 = .ok (.bipush 26, 2) := by decide +kernel
theorem dL_act_385 : decode cL_act 385 = .ok (.invokestatic 15, 3) := by decide +kernel
theorem dL_act_388 : decode cL_act 388 = .ok (.bipush 30, 2) := by decide +kernel
theorem dL_act_390 : decode cL_act 390 = .ok (.isub, 1) := by decide +kernel
theorem dL_act_391 : decode cL_act 391 = .ok (.iastore, 1) := by decide +kernel
theorem dL_act_392 : decode cL_act 392 = .ok (.aload_n 0, 1) := by decide +kernel
theorem dL_act_393 : decode cL_act 393 = .ok (.iload 4, 2) := by decide +kernel
theorem dL_act_395 : decode cL_act 395 = .ok (.aload_n 1, 1) := by decide +kernel
theorem dL_act_396 : decode cL_act 396 = .ok (.getfield 42, 3) := by decide +kernel
theorem dL_act_399 : decode cL_act 399 = .ok (.iload 4, 2) := by decide +kernel
theorem dL_act_401 : decode cL_act 401 = .ok (.iaload, 1) := by decide +kernel
theorem dL_act_402 : decode cL_act 402 = .ok (.invokevirtual 46, 3) := by decide +kernel
theorem dL_act_405 : decode cL_act 405 = .ok (.iload 7, 2) := by decide +kernel
theorem dL_act_407 : decode cL_act 407 = .ok (.if_icmp .ne 7, 3) := by decide +kernel
theorem dL_act_410 : decode cL_act 410 = .ok (.iconst 1, 1) := by decide +kernel
theorem dL_act_411 : decode cL_act 411 = .ok (.goto 4, 3) := by decide +kernel
theorem dL_act_414 : decode cL_act 414 = .ok (.iconst 0, 1) := by decide +kernel
theorem dL_act_415 : decode cL_act 415 = .ok (.ireturn, 1) := by decide +kernel
theorem dL_act_416 : decode cL_act 416 = .ok (.aload_n 1, 1) := by decide +kernel
theorem dL_act_417 : decode cL_act 417 = .ok (.aload_n 1, 1) := by decide +kernel
theorem dL_act_418 : decode cL_act 418 = .ok (.getfield 49, 3) := by decide +kernel
theorem dL_act_421 : decode cL_act 421 = .ok (.ifCond .ne 7, 3) := by decide +kernel
theorem dL_act_424 : decode cL_act 424 = .ok (.iconst 1, 1) := by decide +kernel
theorem dL_act_425 : decode cL_act 425 = .ok (.goto 4, 3) := by decide +kernel
theorem dL_act_428 : decode cL_act 428 = .ok (.iconst 0, 1) := by decide +kernel
theorem dL_act_429 : decode cL_act 429 = .ok (.putfield 49, 3) := by decide +kernel
theorem dL_act_432 : decode cL_act 432 = .ok (.aload_n 0, 1) := by decide +kernel
theorem dL_act_433 : decode cL_act 433 = .ok (.invokevirtual 53, 3) := by decide +kernel
theorem dL_act_436 : decode cL_act 436 = .ok (.aload_n 1, 1) := by decide +kernel
theorem dL_act_437 : decode cL_act 437 = .ok (.getfield 49, 3) := by decide +kernel
theorem dL_act_440 : decode cL_act 440 = .ok (.if_icmp .ne 7, 3) := by decide +kernel
theorem dL_act_443 : decode cL_act 443 = .ok (.iconst 1, 1) := by decide +kernel
theorem dL_act_444 : decode cL_act 444 = .ok (.goto 4, 3) := by decide +kernel
theorem dL_act_447 : decode cL_act 447 = .ok (.iconst 0, 1) := by decide +kernel
theorem dL_act_448 : decode cL_act 448 = .ok (.ireturn, 1) := by decide +kernel
theorem dL_act_449 : decode cL_act 449 = .ok (.iconst 1, 1) := by decide +kernel
theorem dL_act_450 : decode cL_act 450 = .ok (.iload_n 2, 1) := by decide +kernel
theorem dL_act_451 : decode cL_act 451 = .ok (.bipush 7, 2) := by decide +kernel
theorem dL_act_453 : decode cL_act 453 = .ok (.ishr, 1) := by decide +kernel
theorem dL_act_454 : decode cL_act 454 = .ok (.iload_n 2, 1) := by decide +kernel
theorem dL_act_455 : decode cL_act 455 = .ok (.iconst 3, 1) := by decide +kernel
theorem dL_act_456 : decode cL_act 456 = .ok (.ishr, 1) := by decide +kernel
theorem dL_act_457 : decode cL_act 457 = .ok (.iconst 5, 1) := by decide +kernel
theorem dL_act_458 : decode cL_act 458 = .ok (.invokestatic 15, 3) := by decide +kernel
theorem dL_act_461 : decode cL_act 461 = .ok (.ifCond .ne 8, 3) := by decide +kernel
theorem dL_act_464 : decode cL_act 464 = .ok (.bipush 60, 2) := by decide +kernel
theorem dL_act_466 : decode cL_act 466 = .ok (.goto 5, 3) := by decide +kernel
theorem dL_act_469 : decode cL_act 469 = .ok (.bipush 8, 2) := by decide +kernel
theorem dL_act_471 : decode cL_act 471 = .ok (.invokestatic 15, 3) := by decide +kernel
theorem dL_act_474 : decode cL_act 474 = .ok (.iadd, 1) := by decide +kernel
theorem dL_act_475 : decode cL_act 475 = .ok (.istore 7, 2) := by decide +kernel
theorem dL_act_477 : decode cL_act 477 = .ok (.aload_n 0, 1) := by decide +kernel
theorem dL_act_478 : decode cL_act 478 = .ok (.iload 7, 2) := by decide +kernel
theorem dL_act_480 : decode cL_act 480 = .ok (.invokevirtual 57, 3) := by decide +kernel
theorem dL_act_483 : decode cL_act 483 = .ok (.aload_n 1, 1) := by decide +kernel
theorem dL_act_484 : decode cL_act 484 = .ok (.iload 7, 2) := by decide +kernel
theorem dL_act_486 : decode cL_act 486 = .ok (.invokevirtual 60, 3) := by decide +kernel
theorem dL_act_489 : decode cL_act 489 = .ok (.if_icmp .ne 7, 3) := by decide +kernel
theorem dL_act_492 : decode cL_act 492 = .ok (.iconst 1, 1) := by decide +kernel
theorem dL_act_493 : decode cL_act 493 = .ok (.goto 4, 3) := by decide +kernel
theorem dL_act_496 : decode cL_act 496 = .ok (.iconst 0, 1) := by decide +kernel
theorem dL_act_497 : decode cL_act 497 = .ok (.ireturn, 1) := by decide +kernel
theorem dL_act_498 : decode cL_act 498 = .ok (.astore 7, 2) := by decide +kernel
theorem dL_act_500 : decode cL_act 500 = .ok (.iload 6, 2) := by decide +kernel
theorem dL_act_502 : decode cL_act 502 = .ok (.ifCond .ne 7, 3) := by decide +kernel
theorem dL_act_505 : decode cL_act 505 = .ok (.iconst 1, 1) := by decide +kernel
theorem dL_act_506 : decode cL_act 506 = .ok (.goto 4, 3) := by decide +kernel
theorem dL_act_509 : decode cL_act 509 = .ok (.iconst 0, 1) := by decide +kernel
theorem dL_act_510 : decode cL_act 510 = .ok (.ireturn, 1) := by decide +kernel
theorem dL_build_0 : decode cL_build 0 = .ok (.new 10, 3) := by decide +kernel
theorem dL_build_3 : decode cL_build 3 = .ok (.dup, 1) := by decide +kernel
theorem dL_build_4 : decode cL_build 4 = .ok (.invokespecial 63, 3) := by decide +kernel
theorem dL_build_7 : decode cL_build 7 = .ok (.astore_n 2, 1) := by decide +kernel
theorem dL_build_8 : decode cL_build 8 = .ok (.bipush 6, 2) := by decide +kernel
theorem dL_build_10 : decode cL_build 10 = .ok (.aload_n 1, 1) := by decide +kernel
theorem dL_build_11 : decode cL_build 11 = .ok (.iconst 0, 1) := by decide +kernel
theorem dL_build_12 : decode cL_build 12 = .ok (.invokestatic 64, 3) := by decide +kernel
theorem dL_build_15 : decode cL_build 15 = .ok (.bipush 16, 2) := by decide +kernel
theorem dL_build_17 : decode cL_build 17 = .ok (.invokestatic 15, 3) := by decide +kernel
theorem dL_build_20 : decode cL_build 20 = .ok (.iadd, 1) := by decide +kernel
theorem dL_build_21 : decode cL_build 21 = .ok (.istore_n 3, 1) := by decide +kernel
theorem dL_build_22 : decode cL_build 22 = .ok (.iconst 0, 1) := by decide +kernel
theorem dL_build_23 : decode cL_build 23 = .ok (.istore 4, 2) := by decide +kernel
theorem dL_build_25 : decode cL_build 25 = .ok (.iload 4, 2) := by decide +kernel
theorem dL_build_27 : decode cL_build 27 = .ok (.iload_n 3, 1) := by decide +kernel
theorem dL_build_28 : decode cL_build 28 = .ok (.if_icmp .ge 62, 3) := by decide +kernel
theorem dL_build_31 : decode cL_build 31 = .ok (.aload_n 1, 1) := by decide +kernel
theorem dL_build_32 : decode cL_build 32 = .ok (.iconst 1, 1) := by decide +kernel
theorem dL_build_33 : decode cL_build 33 = .ok (.iload 4, 2) := by decide +kernel
theorem dL_build_35 : decode cL_build 35 = .ok (.bipush 15, 2) := by decide +kernel
theorem dL_build_37 : decode cL_build 37 = .ok (.irem, 1) := by decide +kernel
theorem dL_build_38 : decode cL_build 38 = .ok (.iadd, 1) := by decide +kernel
theorem dL_build_39 : decode cL_build 39 = .ok (.invokestatic 64, 3) := by decide +kernel
theorem dL_build_42 : decode cL_build 42 = .ok (.iload 4, 2) := by decide +kernel
theorem dL_build_44 : decode cL_build 44 = .ok (.bipush 15, 2) := by decide +kernel
theorem dL_build_46 : decode cL_build 46 = .ok (.idiv, 1) := by decide +kernel
theorem dL_build_47 : decode cL_build 47 = .ok (.iconst 3, 1) := by decide +kernel
theorem dL_build_48 : decode cL_build 48 = .ok (.imul, 1) := by decide +kernel
theorem dL_build_49 : decode cL_build 49 = .ok (.ishr, 1) := by decide +kernel
theorem dL_build_50 : decode cL_build 50 = .ok (.istore 5, 2) := by decide +kernel
theorem dL_build_52 : decode cL_build 52 = .ok (.aload_n 0, 1) := by decide +kernel
theorem dL_build_53 : decode cL_build 53 = .ok (.aload_n 2, 1) := by decide +kernel
theorem dL_build_54 : decode cL_build 54 = .ok (.iload 4, 2) := by decide +kernel
theorem dL_build_56 : decode cL_build 56 = .ok (.iconst 3, 1) := by decide +kernel
theorem dL_build_57 : decode cL_build 57 = .ok (.irem, 1) := by decide +kernel
theorem dL_build_58 : decode cL_build 58 = .ok (.ifCond .ne 16, 3) := by decide +kernel
theorem dL_build_61 : decode cL_build 61 = .ok (.iload 5, 2) := by decide +kernel
theorem dL_build_63 : decode cL_build 63 = .ok (.iload 5, 2) := by decide +kernel
theorem dL_build_65 : decode cL_build 65 = .ok (.bipush 15, 2) := by decide +kernel
theorem dL_build_67 : decode cL_build 67 = .ok (.invokestatic 15, 3) := by decide +kernel
theorem dL_build_70 : decode cL_build 70 = .ok (.isub, 1) := by decide +kernel
theorem dL_build_71 : decode cL_build 71 = .ok (.goto 5, 3) := by decide +kernel
theorem dL_build_74 : decode cL_build 74 = .ok (.iload 5, 2) := by decide +kernel
theorem dL_build_76 : decode cL_build 76 = .ok (.invokestatic 68, 3) := by decide +kernel
theorem dL_build_79 : decode cL_build 79 = .ok (.ifCond .ne 5, 3) := by decide +kernel
theorem dL_build_82 : decode cL_build 82 = .ok (.aconst_null, 1) := by decide +kernel
theorem dL_build_83 : decode cL_build 83 = .ok (.areturn, 1) := by decide +kernel
theorem dL_build_84 : decode cL_build 84 = .ok (.iinc 4 1, 3) := by decide +kernel
theorem dL_build_87 : decode cL_build 87 = .ok (.goto (-62), 3) := by decide +kernel
theorem dL_build_90 : decode cL_build 90 = .ok (.aload_n 2, 1) := by decide +kernel
theorem dL_build_91 : decode cL_build 91 = .ok (.areturn, 1) := by decide +kernel
theorem dL_law_0 : decode cL_law 0 = .ok (.new 26, 3) := by decide +kernel
theorem dL_law_3 : decode cL_law 3 = .ok (.dup, 1) := by decide +kernel
theorem dL_law_4 : decode cL_law 4 = .ok (.invokespecial 72, 3) := by decide +kernel
theorem dL_law_7 : decode cL_law 7 = .ok (.astore_n 1, 1) := by decide +kernel
theorem dL_law_8 : decode cL_law 8 = .ok (.aload_n 1, 1) := by decide +kernel
theorem dL_law_9 : decode cL_law 9 = .ok (.aload_n 0, 1) := by decide +kernel
theorem dL_law_10 : decode cL_law 10 = .ok (.invokestatic 73, 3) := by decide +kernel
theorem dL_law_13 : decode cL_law 13 = .ok (.astore_n 2, 1) := by decide +kernel
theorem dL_law_14 : decode cL_law 14 = .ok (.aload_n 2, 1) := by decide +kernel
theorem dL_law_15 : decode cL_law 15 = .ok (.ifnonnull 5, 3) := by decide +kernel
theorem dL_law_18 : decode cL_law 18 = .ok (.iconst 0, 1) := by decide +kernel
theorem dL_law_19 : decode cL_law 19 = .ok (.ireturn, 1) := by decide +kernel
theorem dL_law_20 : decode cL_law 20 = .ok (.iconst 0, 1) := by decide +kernel
theorem dL_law_21 : decode cL_law 21 = .ok (.istore_n 3, 1) := by decide +kernel
theorem dL_law_22 : decode cL_law 22 = .ok (.iload_n 3, 1) := by decide +kernel
theorem dL_law_23 : decode cL_law 23 = .ok (.bipush 9, 2) := by decide +kernel
theorem dL_law_25 : decode cL_law 25 = .ok (.if_icmp .ge 1398, 3) := by decide +kernel
theorem dL_law_28 : decode cL_law 28 = .ok (.aload_n 0, 1) := by decide +kernel
theorem dL_law_29 : decode cL_law 29 = .ok (.iload_n 3, 1) := by decide +kernel
theorem dL_law_30 : decode cL_law 30 = .ok (.invokestatic 64, 3) := by decide +kernel
theorem dL_law_33 : decode cL_law 33 = .ok (.iconst 2, 1) := by decide +kernel
theorem dL_law_34 : decode cL_law 34 = .ok (.ishr, 1) := by decide +kernel
theorem dL_law_35 : decode cL_law 35 = .ok (.bipush 53, 2) := by decide +kernel
theorem dL_law_37 : decode cL_law 37 = .ok (.iload_n 3, 1) := by decide +kernel
theorem dL_law_38 : decode cL_law 38 = .ok (.imul, 1) := by decide +kernel
theorem dL_law_39 : decode cL_law 39 = .ok (.iadd, 1) := by decide +kernel
theorem dL_law_40 : decode cL_law 40 = .ok (.istore 4, 2) := by decide +kernel
theorem dL_law_42 : decode cL_law 42 = .ok (.iconst 0, 1) := by decide +kernel
theorem dL_law_43 : decode cL_law 43 = .ok (.istore 5, 2) := by decide +kernel
theorem dL_law_45 : decode cL_law 45 = .ok (.iload 5, 2) := by decide +kernel
theorem dL_law_47 : decode cL_law 47 = .ok (.iconst 3, 1) := by decide +kernel
theorem dL_law_48 : decode cL_law 48 = .ok (.if_icmp .ge 32, 3) := by decide +kernel
theorem dL_law_51 : decode cL_law 51 = .ok (.aload_n 1, 1) := by decide +kernel
theorem dL_law_52 : decode cL_law 52 = .ok (.aload_n 2, 1) := by decide +kernel
theorem dL_law_53 : decode cL_law 53 = .ok (.iload 4, 2) := by decide +kernel
theorem dL_law_55 : decode cL_law 55 = .ok (.iconst 3, 1) := by decide +kernel
theorem dL_law_56 : decode cL_law 56 = .ok (.iload 5, 2) := by decide +kernel
theorem dL_law_58 : decode cL_law 58 = .ok (.imul, 1) := by decide +kernel
theorem dL_law_59 : decode cL_law 59 = .ok (.ishr, 1) := by decide +kernel
theorem dL_law_60 : decode cL_law 60 = .ok (.bipush 29, 2) := by decide +kernel
theorem dL_law_62 : decode cL_law 62 = .ok (.iload 5, 2) := by decide +kernel
theorem dL_law_64 : decode cL_law 64 = .ok (.imul, 1) := by decide +kernel
theorem dL_law_65 : decode cL_law 65 = .ok (.iadd, 1) := by decide +kernel
theorem dL_law_66 : decode cL_law 66 = .ok (.invokestatic 68, 3) := by decide +kernel
theorem dL_law_69 : decode cL_law 69 = .ok (.ifCond .ne 5, 3) := by decide +kernel
theorem dL_law_72 : decode cL_law 72 = .ok (.iconst 0, 1) := by decide +kernel
theorem dL_law_73 : decode cL_law 73 = .ok (.ireturn, 1) := by decide +kernel
theorem dL_law_74 : decode cL_law 74 = .ok (.iinc 5 1, 3) := by decide +kernel
theorem dL_law_77 : decode cL_law 77 = .ok (.goto (-32), 3) := by decide +kernel
theorem dL_law_80 : decode cL_law 80 = .ok (.aload_n 1, 1) := by decide +kernel
theorem dL_law_81 : decode cL_law 81 = .ok (.invokevirtual 77, 3) := by decide +kernel
theorem dL_law_84 : decode cL_law 84 = .ok (.lstore 5, 2) := by decide +kernel
theorem dL_law_86 : decode cL_law 86 = .ok (.aload_n 1, 1) := by decide +kernel
theorem dL_law_87 : decode cL_law 87 = .ok (.invokevirtual 81, 3) := by decide +kernel
theorem dL_law_90 : decode cL_law 90 = .ok (.istore 7, 2) := by decide +kernel
theorem dL_law_92 : decode cL_law 92 = .ok (.iconst 0, 1) := by decide +kernel
theorem dL_law_93 : decode cL_law 93 = .ok (.istore 8, 2) := by decide +kernel
theorem dL_law_95 : decode cL_law 95 = .ok (.iconst 0, 1) := by decide +kernel
theorem dL_law_96 : decode cL_law 96 = .ok (.istore 9, 2) := by decide +kernel
theorem dL_law_98 : decode cL_law 98 = .ok (.iconst 0, 1) := by decide +kernel
theorem dL_law_99 : decode cL_law 99 = .ok (.istore 10, 2) := by decide +kernel
theorem dL_law_101 : decode cL_law 101 = .ok (.iconst 0, 1) := by decide +kernel
theorem dL_law_102 : decode cL_law 102 = .ok (.istore 11, 2) := by decide +kernel
theorem dL_law_104 : decode cL_law 104 = .ok (.iload 11, 2) := by decide +kernel
theorem dL_law_106 : decode cL_law 106 = .ok (.iconst 5, 1) := by decide +kernel
theorem dL_law_107 : decode cL_law 107 = .ok (.if_icmp .ge 83, 3) := by decide +kernel
theorem dL_law_110 : decode cL_law 110 = .ok (.iload 8, 2) := by decide +kernel
theorem dL_law_112 : decode cL_law 112 = .ok (.aload_n 1, 1) := by decide +kernel
theorem dL_law_113 : decode cL_law 113 = .ok (.iload 11, 2) := by decide +kernel
theorem dL_law_115 : decode cL_law 115 = .ok (.invokevirtual 85, 3) := by decide +kernel
theorem dL_law_118 : decode cL_law 118 = .ok (.iadd, 1) := by decide +kernel
theorem dL_law_119 : decode cL_law 119 = .ok (.istore 8, 2) := by decide +kernel
theorem dL_law_121 : decode cL_law 121 = .ok (.aload_n 1, 1) := by decide +kernel
theorem dL_law_122 : decode cL_law 122 = .ok (.iload 11, 2) := by decide +kernel
theorem dL_law_124 : decode cL_law 124 = .ok (.invokevirtual 88, 3) := by decide +kernel
theorem dL_law_127 : decode cL_law 127 = .ok (.bipush (-30), 2) := by decide +kernel
theorem dL_law_129 : decode cL_law 129 = .ok (.if_icmp .lt 53, 3) := by decide +kernel
theorem dL_law_132 : decode cL_law 132 = .ok (.aload_n 1, 1) := by decide +kernel
theorem dL_law_133 : decode cL_law 133 = .ok (.iload 11, 2) := by decide +kernel
theorem dL_law_135 : decode cL_law 135 = .ok (.invokevirtual 88, 3) := by decide +kernel
theorem dL_law_138 : decode cL_law 138 = .ok (.bipush (-5), 2) := by decide +kernel
theorem dL_law_140 : decode cL_law 140 = .ok (.if_icmp .gt 42, 3) := by decide +kernel
theorem dL_law_143 : decode cL_law 143 = .ok (.aload_n 1, 1) := by decide +kernel
theorem dL_law_144 : decode cL_law 144 = .ok (.iload 11, 2) := by decide +kernel
theorem dL_law_146 : decode cL_law 146 = .ok (.invokevirtual 91, 3) := by decide +kernel
theorem dL_law_149 : decode cL_law 149 = .ok (.bipush (-30), 2) := by decide +kernel
theorem dL_law_151 : decode cL_law 151 = .ok (.if_icmp .lt 31, 3) := by decide +kernel
theorem dL_law_154 : decode cL_law 154 = .ok (.aload_n 1, 1) := by decide +kernel
theorem dL_law_155 : decode cL_law 155 = .ok (.iload 11, 2) := by decide +kernel
theorem dL_law_157 : decode cL_law 157 = .ok (.invokevirtual 91, 3) := by decide +kernel
theorem dL_law_160 : decode cL_law 160 = .ok (.bipush 20, 2) := by decide +kernel
theorem dL_law_162 : decode cL_law 162 = .ok (.if_icmp .gt 20, 3) := by decide +kernel
theorem dL_law_165 : decode cL_law 165 = .ok (.aload_n 1, 1) := by decide +kernel
theorem dL_law_166 : decode cL_law 166 = .ok (.iload 11, 2) := by decide +kernel
theorem dL_law_168 : decode cL_law 168 = .ok (.invokevirtual 91, 3) := by decide +kernel
theorem dL_law_171 : decode cL_law 171 = .ok (.aload_n 1, 1) := by decide +kernel
theorem dL_law_172 : decode cL_law 172 = .ok (.aload_n 1, 1) := by decide +kernel
theorem dL_law_173 : decode cL_law 173 = .ok (.invokevirtual 94, 3) := by decide +kernel
theorem dL_law_176 : decode cL_law 176 = .ok (.invokevirtual 91, 3) := by decide +kernel
theorem dL_law_179 : decode cL_law 179 = .ok (.if_icmp .ge 5, 3) := by decide +kernel
theorem dL_law_182 : decode cL_law 182 = .ok (.iconst 0, 1) := by decide +kernel
theorem dL_law_183 : decode cL_law 183 = .ok (.ireturn, 1) := by decide +kernel
theorem dL_law_184 : decode cL_law 184 = .ok (.iinc 11 1, 3) := by decide +kernel
theorem dL_law_187 : decode cL_law 187 = .ok (.goto (-83), 3) := by decide +kernel
theorem dL_law_190 : decode cL_law 190 = .ok (.iconst 0, 1) := by decide +kernel
theorem dL_law_191 : decode cL_law 191 = .ok (.istore 11, 2) := by decide +kernel
theorem dL_law_193 : decode cL_law 193 = .ok (.iload 11, 2) := by decide +kernel
theorem dL_law_195 : decode cL_law 195 = .ok (.bipush 6, 2) := by decide +kernel
theorem dL_law_197 : decode cL_law 197 = .ok (.if_icmp .ge 50, 3) := by decide +kernel
theorem dL_law_200 : decode cL_law 200 = .ok (.iload 9, 2) := by decide +kernel
theorem dL_law_202 : decode cL_law 202 = .ok (.aload_n 1, 1) := by decide +kernel
theorem dL_law_203 : decode cL_law 203 = .ok (.iload 11, 2) := by decide +kernel
theorem dL_law_205 : decode cL_law 205 = .ok (.invokevirtual 97, 3) := by decide +kernel
theorem dL_law_208 : decode cL_law 208 = .ok (.iadd, 1) := by decide +kernel
theorem dL_law_209 : decode cL_law 209 = .ok (.istore 9, 2) := by decide +kernel
theorem dL_law_211 : decode cL_law 211 = .ok (.iload 10, 2) := by decide +kernel
theorem dL_law_213 : decode cL_law 213 = .ok (.aload_n 1, 1) := by decide +kernel
theorem dL_law_214 : decode cL_law 214 = .ok (.iload 11, 2) := by decide +kernel
theorem dL_law_216 : decode cL_law 216 = .ok (.invokevirtual 100, 3) := by decide +kernel
theorem dL_law_219 : decode cL_law 219 = .ok (.iadd, 1) := by decide +kernel
theorem dL_law_220 : decode cL_law 220 = .ok (.istore 10, 2) := by decide +kernel
theorem dL_law_222 : decode cL_law 222 = .ok (.aload_n 1, 1) := by decide +kernel
theorem dL_law_223 : decode cL_law 223 = .ok (.iload 11, 2) := by decide +kernel
theorem dL_law_225 : decode cL_law 225 = .ok (.invokevirtual 100, 3) := by decide +kernel
theorem dL_law_228 : decode cL_law 228 = .ok (.aload_n 1, 1) := by decide +kernel
theorem dL_law_229 : decode cL_law 229 = .ok (.aload_n 1, 1) := by decide +kernel
theorem dL_law_230 : decode cL_law 230 = .ok (.invokevirtual 103, 3) := by decide +kernel
theorem dL_law_233 : decode cL_law 233 = .ok (.invokevirtual 100, 3) := by decide +kernel
theorem dL_law_236 : decode cL_law 236 = .ok (.if_icmp .le 5, 3) := by decide +kernel
theorem dL_law_239 : decode cL_law 239 = .ok (.iconst 0, 1) := by decide +kernel
theorem dL_law_240 : decode cL_law 240 = .ok (.ireturn, 1) := by decide +kernel
theorem dL_law_241 : decode cL_law 241 = .ok (.iinc 11 1, 3) := by decide +kernel
theorem dL_law_244 : decode cL_law 244 = .ok (.goto (-51), 3) := by decide +kernel
theorem dL_law_247 : decode cL_law 247 = .ok (.iconst 0, 1) := by decide +kernel
theorem dL_law_248 : decode cL_law 248 = .ok (.istore 11, 2) := by decide +kernel
theorem dL_law_250 : decode cL_law 250 = .ok (.iconst 0, 1) := by decide +kernel
theorem dL_law_251 : decode cL_law 251 = .ok (.istore 12, 2) := by decide +kernel
theorem dL_law_253 : decode cL_law 253 = .ok (.iconst 0, 1) := by decide +kernel
theorem dL_law_254 : decode cL_law 254 = .ok (.istore 13, 2) := by decide +kernel
theorem dL_law_256 : decode cL_law 256 = .ok (.iload 13, 2) := by decide +kernel
theorem dL_law_258 : decode cL_law 258 = .ok (.iload 7, 2) := by decide +kernel
theorem dL_law_260 : decode cL_law 260 = .ok (.if_icmp .ge 211, 3) := by decide +kernel
theorem dL_law_263 : decode cL_law 263 = .ok (.aload_n 1, 1) := by decide +kernel
theorem dL_law_264 : decode cL_law 264 = .ok (.iload 13, 2) := by decide +kernel
theorem dL_law_266 : decode cL_law 266 = .ok (.invokevirtual 106, 3) := by decide +kernel
theorem dL_law_269 : decode cL_law 269 = .ok (.ifCond .lt 7, 3) := by decide +kernel
theorem dL_law_272 : decode cL_law 272 = .ok (.iconst 1, 1) := by decide +kernel
theorem dL_law_273 : decode cL_law 273 = .ok (.goto 4, 3) := by decide +kernel
theorem dL_law_276 : decode cL_law 276 = .ok (.iconst 0, 1) := by decide +kernel
theorem dL_law_277 : decode cL_law 277 = .ok (.istore 14, 2) := by decide +kernel
theorem dL_law_279 : decode cL_law 279 = .ok (.iload 11, 2) := by decide +kernel
theorem dL_law_281 : decode cL_law 281 = .ok (.aload_n 1, 1) := by decide +kernel
theorem dL_law_282 : decode cL_law 282 = .ok (.iload 13, 2) := by decide +kernel
theorem dL_law_284 : decode cL_law 284 = .ok (.invokevirtual 109, 3) := by decide +kernel
theorem dL_law_287 : decode cL_law 287 = .ok (.ifCond .eq 7, 3) := by decide +kernel
theorem dL_law_290 : decode cL_law 290 = .ok (.iconst 1, 1) := by decide +kernel
theorem dL_law_291 : decode cL_law 291 = .ok (.goto 4, 3) := by decide +kernel
theorem dL_law_294 : decode cL_law 294 = .ok (.iconst 0, 1) := by decide +kernel
theorem dL_law_295 : decode cL_law 295 = .ok (.iadd, 1) := by decide +kernel
theorem dL_law_296 : decode cL_law 296 = .ok (.istore 11, 2) := by decide +kernel
theorem dL_law_298 : decode cL_law 298 = .ok (.iload 12, 2) := by decide +kernel
theorem dL_law_300 : decode cL_law 300 = .ok (.aload_n 1, 1) := by decide +kernel
theorem dL_law_301 : decode cL_law 301 = .ok (.iload 13, 2) := by decide +kernel
theorem dL_law_303 : decode cL_law 303 = .ok (.invokevirtual 113, 3) := by decide +kernel
theorem dL_law_306 : decode cL_law 306 = .ok (.ifCond .eq 7, 3) := by decide +kernel
theorem dL_law_309 : decode cL_law 309 = .ok (.iconst 1, 1) := by decide +kernel
theorem dL_law_310 : decode cL_law 310 = .ok (.goto 4, 3) := by decide +kernel
theorem dL_law_313 : decode cL_law 313 = .ok (.iconst 0, 1) := by decide +kernel
theorem dL_law_314 : decode cL_law 314 = .ok (.iadd, 1) := by decide +kernel
theorem dL_law_315 : decode cL_law 315 = .ok (.istore 12, 2) := by decide +kernel
theorem dL_law_317 : decode cL_law 317 = .ok (.aload_n 1, 1) := by decide +kernel
theorem dL_law_318 : decode cL_law 318 = .ok (.iload 13, 2) := by decide +kernel
theorem dL_law_320 : decode cL_law 320 = .ok (.invokevirtual 116, 3) := by decide +kernel
theorem dL_law_323 : decode cL_law 323 = .ok (.ifCond .eq 12, 3) := by decide +kernel
theorem dL_law_326 : decode cL_law 326 = .ok (.aload_n 1, 1) := by decide +kernel
theorem dL_law_327 : decode cL_law 327 = .ok (.iload 13, 2) := by decide +kernel
theorem dL_law_329 : decode cL_law 329 = .ok (.invokevirtual 119, 3) := by decide +kernel
theorem dL_law_332 : decode cL_law 332 = .ok (.ifCond .ne 131, 3) := by decide +kernel
theorem dL_law_335 : decode cL_law 335 = .ok (.iload 14, 2) := by decide +kernel
theorem dL_law_337 : decode cL_law 337 = .ok (.ifCond .ne 21, 3) := by decide +kernel
theorem dL_law_340 : decode cL_law 340 = .ok (.aload_n 1, 1) := by decide +kernel
theorem dL_law_341 : decode cL_law 341 = .ok (.iload 13, 2) := by decide +kernel
theorem dL_law_343 : decode cL_law 343 = .ok (.invokevirtual 116, 3) := by decide +kernel
theorem dL_law_346 : decode cL_law 346 = .ok (.ifCond .ne 117, 3) := by decide +kernel
theorem dL_law_349 : decode cL_law 349 = .ok (.aload_n 1, 1) := by decide +kernel
theorem dL_law_350 : decode cL_law 350 = .ok (.iload 13, 2) := by decide +kernel
theorem dL_law_352 : decode cL_law 352 = .ok (.invokevirtual 119, 3) := by decide +kernel
theorem dL_law_355 : decode cL_law 355 = .ok (.ifCond .ne 108, 3) := by decide +kernel
theorem dL_law_358 : decode cL_law 358 = .ok (.iload 14, 2) := by decide +kernel
theorem dL_law_360 : decode cL_law 360 = .ok (.ifCond .eq 31, 3) := by decide +kernel
theorem dL_law_363 : decode cL_law 363 = .ok (.aload_n 1, 1) := by decide +kernel
theorem dL_law_364 : decode cL_law 364 = .ok (.iload 13, 2) := by decide +kernel
theorem dL_law_366 : decode cL_law 366 = .ok (.invokevirtual 109, 3) := by decide +kernel
theorem dL_law_369 : decode cL_law 369 = .ok (.ifCond .ne 94, 3) := by decide +kernel
theorem dL_law_372 : decode cL_law 372 = .ok (.aload_n 1, 1) := by decide +kernel
theorem dL_law_373 : decode cL_law 373 = .ok (.iload 13, 2) := by decide +kernel
theorem dL_law_375 : decode cL_law 375 = .ok (.invokevirtual 113, 3) := by decide +kernel
theorem dL_law_378 : decode cL_law 378 = .ok (.ifCond .ne 85, 3) := by decide +kernel
theorem dL_law_381 : decode cL_law 381 = .ok (.aload_n 1, 1) := by decide +kernel
theorem dL_law_382 : decode cL_law 382 = .ok (.iload 13, 2) := by decide +kernel
theorem dL_law_384 : decode cL_law 384 = .ok (.invokevirtual 122, 3) := by decide +kernel
theorem dL_law_387 : decode cL_law 387 = .ok (.iconst 1, 1) := by decide +kernel
theorem dL_law_388 : decode cL_law 388 = .ok (.if_icmp .lt 75, 3) := by decide +kernel
theorem dL_law_391 : decode cL_law 391 = .ok (.aload_n 1, 1) := by decide +kernel
theorem dL_law_392 : decode cL_law 392 = .ok (.iload 13, 2) := by decide +kernel
theorem dL_law_394 : decode cL_law 394 = .ok (.invokevirtual 109, 3) := by decide +kernel
theorem dL_law_397 : decode cL_law 397 = .ok (.ifCond .eq 12, 3) := by decide +kernel
theorem dL_law_400 : decode cL_law 400 = .ok (.aload_n 1, 1) := by decide +kernel
theorem dL_law_401 : decode cL_law 401 = .ok (.iload 13, 2) := by decide +kernel
theorem dL_law_403 : decode cL_law 403 = .ok (.invokevirtual 113, 3) := by decide +kernel
theorem dL_law_406 : decode cL_law 406 = .ok (.ifCond .ne 57, 3) := by decide +kernel
theorem dL_law_409 : decode cL_law 409 = .ok (.aload_n 1, 1) := by decide +kernel
theorem dL_law_410 : decode cL_law 410 = .ok (.iload 13, 2) := by decide +kernel
theorem dL_law_412 : decode cL_law 412 = .ok (.invokevirtual 113, 3) := by decide +kernel
theorem dL_law_415 : decode cL_law 415 = .ok (.ifCond .eq 12, 3) := by decide +kernel
theorem dL_law_418 : decode cL_law 418 = .ok (.aload_n 1, 1) := by decide +kernel
theorem dL_law_419 : decode cL_law 419 = .ok (.iload 13, 2) := by decide +kernel
theorem dL_law_421 : decode cL_law 421 = .ok (.invokevirtual 122, 3) := by decide +kernel
theorem dL_law_424 : decode cL_law 424 = .ok (.ifCond .ne 39, 3) := by decide +kernel
theorem dL_law_427 : decode cL_law 427 = .ok (.aload_n 1, 1) := by decide +kernel
theorem dL_law_428 : decode cL_law 428 = .ok (.iload 13, 2) := by decide +kernel
theorem dL_law_430 : decode cL_law 430 = .ok (.invokevirtual 125, 3) := by decide +kernel
theorem dL_law_433 : decode cL_law 433 = .ok (.ifCond .lt 30, 3) := by decide +kernel
theorem dL_law_436 : decode cL_law 436 = .ok (.aload_n 1, 1) := by decide +kernel
theorem dL_law_437 : decode cL_law 437 = .ok (.iload 13, 2) := by decide +kernel
theorem dL_law_439 : decode cL_law 439 = .ok (.invokevirtual 122, 3) := by decide +kernel
theorem dL_law_442 : decode cL_law 442 = .ok (.ifCond .lt 21, 3) := by decide +kernel
theorem dL_law_445 : decode cL_law 445 = .ok (.aload_n 1, 1) := by decide +kernel
theorem dL_law_446 : decode cL_law 446 = .ok (.iload 13, 2) := by decide +kernel
theorem dL_law_448 : decode cL_law 448 = .ok (.invokevirtual 125, 3) := by decide +kernel
theorem dL_law_451 : decode cL_law 451 = .ok (.aload_n 1, 1) := by decide +kernel
theorem dL_law_452 : decode cL_law 452 = .ok (.iload 13, 2) := by decide +kernel
theorem dL_law_454 : decode cL_law 454 = .ok (.invokevirtual 122, 3) := by decide +kernel
theorem dL_law_457 : decode cL_law 457 = .ok (.iadd, 1) := by decide +kernel
theorem dL_law_458 : decode cL_law 458 = .ok (.bipush 100, 2) := by decide +kernel
theorem dL_law_460 : decode cL_law 460 = .ok (.if_icmp .le 5, 3) := by decide +kernel
theorem dL_law_463 : decode cL_law 463 = .ok (.iconst 0, 1) := by decide +kernel
theorem dL_law_464 : decode cL_law 464 = .ok (.ireturn, 1) := by decide +kernel
theorem dL_law_465 : decode cL_law 465 = .ok (.iinc 13 1, 3) := by decide +kernel
theorem dL_law_468 : decode cL_law 468 = .ok (.goto (-212), 3) := by decide +kernel
theorem dL_law_471 : decode cL_law 471 = .ok (.iload 8, 2) := by decide +kernel
theorem dL_law_473 : decode cL_law 473 = .ok (.iload 11, 2) := by decide +kernel
theorem dL_law_475 : decode cL_law 475 = .ok (.iadd, 1) := by decide +kernel
theorem dL_law_476 : decode cL_law 476 = .ok (.iload 12, 2) := by decide +kernel
theorem dL_law_478 : decode cL_law 478 = .ok (.iadd, 1) := by decide +kernel
theorem dL_law_479 : decode cL_law 479 = .ok (.iload 7, 2) := by decide +kernel
theorem dL_law_481 : decode cL_law 481 = .ok (.if_icmp .ne 20, 3) := by decide +kernel
theorem dL_law_484 : decode cL_law 484 = .ok (.iload 9, 2) := by decide +kernel
theorem dL_law_486 : decode cL_law 486 = .ok (.iload 8, 2) := by decide +kernel
theorem dL_law_488 : decode cL_law 488 = .ok (.if_icmp .ne 13, 3) := by decide +kernel
theorem dL_law_491 : decode cL_law 491 = .ok (.iload 10, 2) := by decide +kernel
theorem dL_law_493 : decode cL_law 493 = .ok (.iload 11, 2) := by decide +kernel
theorem dL_law_495 : decode cL_law 495 = .ok (.iload 12, 2) := by decide +kernel
theorem dL_law_497 : decode cL_law 497 = .ok (.isub, 1) := by decide +kernel
theorem dL_law_498 : decode cL_law 498 = .ok (.if_icmp .eq 5, 3) := by decide +kernel
theorem dL_law_501 : decode cL_law 501 = .ok (.iconst 0, 1) := by decide +kernel
theorem dL_law_502 : decode cL_law 502 = .ok (.ireturn, 1) := by decide +kernel
theorem dL_law_503 : decode cL_law 503 = .ok (.iload 7, 2) := by decide +kernel
theorem dL_law_505 : decode cL_law 505 = .ok (.ifCond .ne 7, 3) := by decide +kernel
theorem dL_law_508 : decode cL_law 508 = .ok (.iconst 0, 1) := by decide +kernel
theorem dL_law_509 : decode cL_law 509 = .ok (.goto 12, 3) := by decide +kernel
theorem dL_law_512 : decode cL_law 512 = .ok (.iload 4, 2) := by decide +kernel
theorem dL_law_514 : decode cL_law 514 = .ok (.iconst 4, 1) := by decide +kernel
theorem dL_law_515 : decode cL_law 515 = .ok (.ishr, 1) := by decide +kernel
theorem dL_law_516 : decode cL_law 516 = .ok (.iload 7, 2) := by decide +kernel
theorem dL_law_518 : decode cL_law 518 = .ok (.invokestatic 15, 3) := by decide +kernel
theorem dL_law_521 : decode cL_law 521 = .ok (.istore 13, 2) := by decide +kernel
theorem dL_law_523 : decode cL_law 523 = .ok (.iload 7, 2) := by decide +kernel
theorem dL_law_525 : decode cL_law 525 = .ok (.ifCond .ne 7, 3) := by decide +kernel
theorem dL_law_528 : decode cL_law 528 = .ok (.iconst (-1), 1) := by decide +kernel
theorem dL_law_529 : decode cL_law 529 = .ok (.goto 9, 3) := by decide +kernel
theorem dL_law_532 : decode cL_law 532 = .ok (.aload_n 1, 1) := by decide +kernel
theorem dL_law_533 : decode cL_law 533 = .ok (.iload 13, 2) := by decide +kernel
theorem dL_law_535 : decode cL_law 535 = .ok (.invokevirtual 128, 3) := by decide +kernel
theorem dL_law_538 : decode cL_law 538 = .ok (.istore 14, 2) := by decide +kernel
theorem dL_law_540 : decode cL_law 540 = .ok (.iload 7, 2) := by decide +kernel
theorem dL_law_542 : decode cL_law 542 = .ok (.ifCond .ne 7, 3) := by decide +kernel
theorem dL_law_545 : decode cL_law 545 = .ok (.iconst (-1), 1) := by decide +kernel
theorem dL_law_546 : decode cL_law 546 = .ok (.goto 9, 3) := by decide +kernel
theorem dL_law_549 : decode cL_law 549 = .ok (.aload_n 1, 1) := by decide +kernel
theorem dL_law_550 : decode cL_law 550 = .ok (.iload 13, 2) := by decide +kernel
theorem dL_law_552 : decode cL_law 552 = .ok (.invokevirtual 131, 3) := by decide +kernel
theorem dL_law_555 : decode cL_law 555 = .ok (.istore 15, 2) := by decide +kernel
theorem dL_law_557 : decode cL_law 557 = .ok (.iload 7, 2) := by decide +kernel
theorem dL_law_559 : decode cL_law 559 = .ok (.ifCond .ne 7, 3) := by decide +kernel
theorem dL_law_562 : decode cL_law 562 = .ok (.iconst (-1), 1) := by decide +kernel
theorem dL_law_563 : decode cL_law 563 = .ok (.goto 9, 3) := by decide +kernel
theorem dL_law_566 : decode cL_law 566 = .ok (.aload_n 1, 1) := by decide +kernel
theorem dL_law_567 : decode cL_law 567 = .ok (.iload 13, 2) := by decide +kernel
theorem dL_law_569 : decode cL_law 569 = .ok (.invokevirtual 134, 3) := by decide +kernel
theorem dL_law_572 : decode cL_law 572 = .ok (.istore 16, 2) := by decide +kernel
theorem dL_law_574 : decode cL_law 574 = .ok (.aload_n 1, 1) := by decide +kernel
theorem dL_law_575 : decode cL_law 575 = .ok (.invokevirtual 137, 3) := by decide +kernel
theorem dL_law_578 : decode cL_law 578 = .ok (.istore 17, 2) := by decide +kernel
theorem dL_law_580 : decode cL_law 580 = .ok (.iconst 1, 1) := by decide +kernel
theorem dL_law_581 : decode cL_law 581 = .ok (.iload 4, 2) := by decide +kernel
theorem dL_law_583 : decode cL_law 583 = .ok (.bipush 6, 2) := by decide +kernel
theorem dL_law_585 : decode cL_law 585 = .ok (.ishr, 1) := by decide +kernel
theorem dL_law_586 : decode cL_law 586 = .ok (.bipush 20, 2) := by decide +kernel
theorem dL_law_588 : decode cL_law 588 = .ok (.invokestatic 15, 3) := by decide +kernel
theorem dL_law_591 : decode cL_law 591 = .ok (.iadd, 1) := by decide +kernel
theorem dL_law_592 : decode cL_law 592 = .ok (.istore 18, 2) := by decide +kernel
theorem dL_law_594 : decode cL_law 594 = .ok (.aload_n 1, 1) := by decide +kernel
theorem dL_law_595 : decode cL_law 595 = .ok (.iload 18, 2) := by decide +kernel
theorem dL_law_597 : decode cL_law 597 = .ok (.invokevirtual 140, 3) := by decide +kernel
theorem dL_law_600 : decode cL_law 600 = .ok (.istore 19, 2) := by decide +kernel
theorem dL_law_602 : decode cL_law 602 = .ok (.aload_n 1, 1) := by decide +kernel
theorem dL_law_603 : decode cL_law 603 = .ok (.invokevirtual 77, 3) := by decide +kernel
theorem dL_law_606 : decode cL_law 606 = .ok (.lload 5, 2) := by decide +kernel
theorem dL_law_608 : decode cL_law 608 = .ok (.lcmp, 1) := by decide +kernel
theorem dL_law_609 : decode cL_law 609 = .ok (.ifCond .ne 65, 3) := by decide +kernel
theorem dL_law_612 : decode cL_law 612 = .ok (.iload 7, 2) := by decide +kernel
theorem dL_law_614 : decode cL_law 614 = .ok (.ifCond .le 62, 3) := by decide +kernel
theorem dL_law_617 : decode cL_law 617 = .ok (.iload 14, 2) := by decide +kernel
theorem dL_law_619 : decode cL_law 619 = .ok (.ifCond .ne 7, 3) := by decide +kernel
theorem dL_law_622 : decode cL_law 622 = .ok (.iconst 1, 1) := by decide +kernel
theorem dL_law_623 : decode cL_law 623 = .ok (.goto 4, 3) := by decide +kernel
theorem dL_law_626 : decode cL_law 626 = .ok (.iconst 0, 1) := by decide +kernel
theorem dL_law_627 : decode cL_law 627 = .ok (.aload_n 1, 1) := by decide +kernel
theorem dL_law_628 : decode cL_law 628 = .ok (.iload 13, 2) := by decide +kernel
theorem dL_law_630 : decode cL_law 630 = .ok (.invokevirtual 116, 3) := by decide +kernel
theorem dL_law_633 : decode cL_law 633 = .ok (.if_icmp .ne 41, 3) := by decide +kernel
theorem dL_law_636 : decode cL_law 636 = .ok (.iload 15, 2) := by decide +kernel
theorem dL_law_638 : decode cL_law 638 = .ok (.ifCond .ne 7, 3) := by decide +kernel
theorem dL_law_641 : decode cL_law 641 = .ok (.iconst 1, 1) := by decide +kernel
theorem dL_law_642 : decode cL_law 642 = .ok (.goto 4, 3) := by decide +kernel
theorem dL_law_645 : decode cL_law 645 = .ok (.iconst 0, 1) := by decide +kernel
theorem dL_law_646 : decode cL_law 646 = .ok (.aload_n 1, 1) := by decide +kernel
theorem dL_law_647 : decode cL_law 647 = .ok (.iload 13, 2) := by decide +kernel
theorem dL_law_649 : decode cL_law 649 = .ok (.invokevirtual 119, 3) := by decide +kernel
theorem dL_law_652 : decode cL_law 652 = .ok (.if_icmp .ne 22, 3) := by decide +kernel
theorem dL_law_655 : decode cL_law 655 = .ok (.iload 16, 2) := by decide +kernel
theorem dL_law_657 : decode cL_law 657 = .ok (.ifCond .ne 7, 3) := by decide +kernel
theorem dL_law_660 : decode cL_law 660 = .ok (.iconst 1, 1) := by decide +kernel
theorem dL_law_661 : decode cL_law 661 = .ok (.goto 4, 3) := by decide +kernel
theorem dL_law_664 : decode cL_law 664 = .ok (.iconst 0, 1) := by decide +kernel
theorem dL_law_665 : decode cL_law 665 = .ok (.aload_n 1, 1) := by decide +kernel
theorem dL_law_666 : decode cL_law 666 = .ok (.iload 13, 2) := by decide +kernel
theorem dL_law_668 : decode cL_law 668 = .ok (.invokevirtual 113, 3) := by decide +kernel
theorem dL_law_671 : decode cL_law 671 = .ok (.if_icmp .eq 5, 3) := by decide +kernel
theorem dL_law_674 : decode cL_law 674 = .ok (.iconst 0, 1) := by decide +kernel
theorem dL_law_675 : decode cL_law 675 = .ok (.ireturn, 1) := by decide +kernel
theorem dL_law_676 : decode cL_law 676 = .ok (.iconst 1, 1) := by decide +kernel
theorem dL_law_677 : decode cL_law 677 = .ok (.istore 20, 2) := by decide +kernel
theorem dL_law_679 : decode cL_law 679 = .ok (.iload 20, 2) := by decide +kernel
theorem dL_law_681 : decode cL_law 681 = .ok (.iload 18, 2) := by decide +kernel
theorem dL_law_683 : decode cL_law 683 = .ok (.if_icmp .gt 597, 3) := by decide +kernel
theorem dL_law_686 : decode cL_law 686 = .ok (.iconst 5, 1) := by decide +kernel
theorem dL_law_687 : decode cL_law 687 = .ok (.newarray .int, 2) := by decide +kernel
theorem dL_law_689 : decode cL_law 689 = .ok (.astore 21, 2) := by decide +kernel
theorem dL_law_691 : decode cL_law 691 = .ok (.iconst 0, 1) := by decide +kernel
theorem dL_law_692 : decode cL_law 692 = .ok (.istore 22, 2) := by decide +kernel
theorem dL_law_694 : decode cL_law 694 = .ok (.iload 22, 2) := by decide +kernel
theorem dL_law_696 : decode cL_law 696 = .ok (.iconst 5, 1) := by decide +kernel
theorem dL_law_697 : decode cL_law 697 = .ok (.if_icmp .ge 20, 3) := by decide +kernel
theorem dL_law_700 : decode cL_law 700 = .ok (.aload 21, 2) := by decide +kernel
theorem dL_law_702 : decode cL_law 702 = .ok (.iload 22, 2) := by decide +kernel
theorem dL_law_704 : decode cL_law 704 = .ok (.aload_n 1, 1) := by decide +kernel
theorem dL_law_705 : decode cL_law 705 = .ok (.iload 22, 2) := by decide +kernel
theorem dL_law_707 : decode cL_law 707 = .ok (.invokevirtual 91, 3) := by decide +kernel
theorem dL_law_710 : decode cL_law 710 = .ok (.iastore, 1) := by decide +kernel
theorem dL_law_711 : decode cL_law 711 = .ok (.iinc 22 1, 3) := by decide +kernel
theorem dL_law_714 : decode cL_law 714 = .ok (.goto (-20), 3) := by decide +kernel
theorem dL_law_717 : decode cL_law 717 = .ok (.iload 7, 2) := by decide +kernel
theorem dL_law_719 : decode cL_law 719 = .ok (.newarray .int, 2) := by decide +kernel
theorem dL_law_721 : decode cL_law 721 = .ok (.astore 22, 2) := by decide +kernel
theorem dL_law_723 : decode cL_law 723 = .ok (.iload 7, 2) := by decide +kernel
theorem dL_law_725 : decode cL_law 725 = .ok (.newarray .int, 2) := by decide +kernel
theorem dL_law_727 : decode cL_law 727 = .ok (.astore 23, 2) := by decide +kernel
theorem dL_law_729 : decode cL_law 729 = .ok (.iload 7, 2) := by decide +kernel
theorem dL_law_731 : decode cL_law 731 = .ok (.newarray .int, 2) := by decide +kernel
theorem dL_law_733 : decode cL_law 733 = .ok (.astore 24, 2) := by decide +kernel
theorem dL_law_735 : decode cL_law 735 = .ok (.iload 7, 2) := by decide +kernel
theorem dL_law_737 : decode cL_law 737 = .ok (.newarray .boolean, 2) := by decide +kernel
theorem dL_law_739 : decode cL_law 739 = .ok (.astore 25, 2) := by decide +kernel
theorem dL_law_741 : decode cL_law 741 = .ok (.iconst 0, 1) := by decide +kernel
theorem dL_law_742 : decode cL_law 742 = .ok (.istore 26, 2) := by decide +kernel
theorem dL_law_744 : decode cL_law 744 = .ok (.iload 26, 2) := by decide +kernel
theorem dL_law_746 : decode cL_law 746 = .ok (.iload 7, 2) := by decide +kernel
theorem dL_law_748 : decode cL_law 748 = .ok (.if_icmp .ge 53, 3) := by decide +kernel
theorem dL_law_751 : decode cL_law 751 = .ok (.aload 22, 2) := by decide +kernel
theorem dL_law_753 : decode cL_law 753 = .ok (.iload 26, 2) := by decide +kernel
theorem dL_law_755 : decode cL_law 755 = .ok (.aload_n 1, 1) := by decide +kernel
theorem dL_law_756 : decode cL_law 756 = .ok (.iload 26, 2) := by decide +kernel
theorem dL_law_758 : decode cL_law 758 = .ok (.invokevirtual 143, 3) := by decide +kernel
theorem dL_law_761 : decode cL_law 761 = .ok (.iastore, 1) := by decide +kernel
theorem dL_law_762 : decode cL_law 762 = .ok (.aload 23, 2) := by decide +kernel
theorem dL_law_764 : decode cL_law 764 = .ok (.iload 26, 2) := by decide +kernel
theorem dL_law_766 : decode cL_law 766 = .ok (.aload_n 1, 1) := by decide +kernel
theorem dL_law_767 : decode cL_law 767 = .ok (.iload 26, 2) := by decide +kernel
theorem dL_law_769 : decode cL_law 769 = .ok (.invokevirtual 125, 3) := by decide +kernel
theorem dL_law_772 : decode cL_law 772 = .ok (.iastore, 1) := by decide +kernel
theorem dL_law_773 : decode cL_law 773 = .ok (.aload 24, 2) := by decide +kernel
theorem dL_law_775 : decode cL_law 775 = .ok (.iload 26, 2) := by decide +kernel
theorem dL_law_777 : decode cL_law 777 = .ok (.aload_n 1, 1) := by decide +kernel
theorem dL_law_778 : decode cL_law 778 = .ok (.iload 26, 2) := by decide +kernel
theorem dL_law_780 : decode cL_law 780 = .ok (.invokevirtual 106, 3) := by decide +kernel
theorem dL_law_783 : decode cL_law 783 = .ok (.iastore, 1) := by decide +kernel
theorem dL_law_784 : decode cL_law 784 = .ok (.aload 25, 2) := by decide +kernel
theorem dL_law_786 : decode cL_law 786 = .ok (.iload 26, 2) := by decide +kernel
theorem dL_law_788 : decode cL_law 788 = .ok (.aload_n 1, 1) := by decide +kernel
theorem dL_law_789 : decode cL_law 789 = .ok (.iload 26, 2) := by decide +kernel
theorem dL_law_791 : decode cL_law 791 = .ok (.invokevirtual 116, 3) := by decide +kernel
theorem dL_law_794 : decode cL_law 794 = .ok (.bastore, 1) := by decide +kernel
theorem dL_law_795 : decode cL_law 795 = .ok (.iinc 26 1, 3) := by decide +kernel
theorem dL_law_798 : decode cL_law 798 = .ok (.goto (-54), 3) := by decide +kernel
theorem dL_law_801 : decode cL_law 801 = .ok (.aload_n 1, 1) := by decide +kernel
theorem dL_law_802 : decode cL_law 802 = .ok (.iconst 1, 1) := by decide +kernel
theorem dL_law_803 : decode cL_law 803 = .ok (.invokevirtual 57, 3) := by decide +kernel
theorem dL_law_806 : decode cL_law 806 = .ok (.istore 26, 2) := by decide +kernel
theorem dL_law_808 : decode cL_law 808 = .ok (.iload 26, 2) := by decide +kernel
theorem dL_law_810 : decode cL_law 810 = .ok (.aload_n 2, 1) := by decide +kernel
theorem dL_law_811 : decode cL_law 811 = .ok (.invokevirtual 146, 3) := by decide +kernel
theorem dL_law_814 : decode cL_law 814 = .ok (.if_icmp .eq 5, 3) := by decide +kernel
theorem dL_law_817 : decode cL_law 817 = .ok (.iconst 0, 1) := by decide +kernel
theorem dL_law_818 : decode cL_law 818 = .ok (.ireturn, 1) := by decide +kernel
theorem dL_law_819 : decode cL_law 819 = .ok (.iconst 0, 1) := by decide +kernel
theorem dL_law_820 : decode cL_law 820 = .ok (.istore 27, 2) := by decide +kernel
theorem dL_law_822 : decode cL_law 822 = .ok (.iload 27, 2) := by decide +kernel
theorem dL_law_824 : decode cL_law 824 = .ok (.iconst 5, 1) := by decide +kernel
theorem dL_law_825 : decode cL_law 825 = .ok (.if_icmp .ge 30, 3) := by decide +kernel
theorem dL_law_828 : decode cL_law 828 = .ok (.aload_n 1, 1) := by decide +kernel
theorem dL_law_829 : decode cL_law 829 = .ok (.iload 27, 2) := by decide +kernel
theorem dL_law_831 : decode cL_law 831 = .ok (.invokevirtual 91, 3) := by decide +kernel
theorem dL_law_834 : decode cL_law 834 = .ok (.aload 21, 2) := by decide +kernel
theorem dL_law_836 : decode cL_law 836 = .ok (.iload 27, 2) := by decide +kernel
theorem dL_law_838 : decode cL_law 838 = .ok (.iaload, 1) := by decide +kernel
theorem dL_law_839 : decode cL_law 839 = .ok (.isub, 1) := by decide +kernel
theorem dL_law_840 : decode cL_law 840 = .ok (.invokestatic 148, 3) := by decide +kernel
theorem dL_law_843 : decode cL_law 843 = .ok (.iconst 2, 1) := by decide +kernel
theorem dL_law_844 : decode cL_law 844 = .ok (.if_icmp .le 5, 3) := by decide +kernel
theorem dL_law_847 : decode cL_law 847 = .ok (.iconst 0, 1) := by decide +kernel
theorem dL_law_848 : decode cL_law 848 = .ok (.ireturn, 1) := by decide +kernel
theorem dL_law_849 : decode cL_law 849 = .ok (.iinc 27 1, 3) := by decide +kernel
theorem dL_law_852 : decode cL_law 852 = .ok (.goto (-30), 3) := by decide +kernel
theorem dL_law_855 : decode cL_law 855 = .ok (.iconst 0, 1) := by decide +kernel
theorem dL_law_856 : decode cL_law 856 = .ok (.istore 27, 2) := by decide +kernel
theorem dL_law_858 : decode cL_law 858 = .ok (.iconst 0, 1) := by decide +kernel
theorem dL_law_859 : decode cL_law 859 = .ok (.istore 28, 2) := by decide +kernel
theorem dL_law_861 : decode cL_law 861 = .ok (.iload 28, 2) := by decide +kernel
theorem dL_law_863 : decode cL_law 863 = .ok (.iload 7, 2) := by decide +kernel
theorem dL_law_865 : decode cL_law 865 = .ok (.if_icmp .ge 247, 3) := by decide +kernel
theorem dL_law_868 : decode cL_law 868 = .ok (.aload 24, 2) := by decide +kernel
theorem dL_law_870 : decode cL_law 870 = .ok (.iload 28, 2) := by decide +kernel
theorem dL_law_872 : decode cL_law 872 = .ok (.iaload, 1) := by decide +kernel
theorem dL_law_873 : decode cL_law 873 = .ok (.ifCond .ge 42, 3) := by decide +kernel
theorem dL_law_876 : decode cL_law 876 = .ok (.aload_n 1, 1) := by decide +kernel
theorem dL_law_877 : decode cL_law 877 = .ok (.iload 28, 2) := by decide +kernel
theorem dL_law_879 : decode cL_law 879 = .ok (.invokevirtual 143, 3) := by decide +kernel
theorem dL_law_882 : decode cL_law 882 = .ok (.aload 22, 2) := by decide +kernel
theorem dL_law_884 : decode cL_law 884 = .ok (.iload 28, 2) := by decide +kernel
theorem dL_law_886 : decode cL_law 886 = .ok (.iaload, 1) := by decide +kernel
theorem dL_law_887 : decode cL_law 887 = .ok (.if_icmp .ne 26, 3) := by decide +kernel
theorem dL_law_890 : decode cL_law 890 = .ok (.aload_n 1, 1) := by decide +kernel
theorem dL_law_891 : decode cL_law 891 = .ok (.iload 28, 2) := by decide +kernel
theorem dL_law_893 : decode cL_law 893 = .ok (.invokevirtual 125, 3) := by decide +kernel
theorem dL_law_896 : decode cL_law 896 = .ok (.aload 23, 2) := by decide +kernel
theorem dL_law_898 : decode cL_law 898 = .ok (.iload 28, 2) := by decide +kernel
theorem dL_law_900 : decode cL_law 900 = .ok (.iaload, 1) := by decide +kernel
theorem dL_law_901 : decode cL_law 901 = .ok (.if_icmp .ne 12, 3) := by decide +kernel
theorem dL_law_904 : decode cL_law 904 = .ok (.aload_n 1, 1) := by decide +kernel
theorem dL_law_905 : decode cL_law 905 = .ok (.iload 28, 2) := by decide +kernel
theorem dL_law_907 : decode cL_law 907 = .ok (.invokevirtual 106, 3) := by decide +kernel
theorem dL_law_910 : decode cL_law 910 = .ok (.ifCond .lt 196, 3) := by decide +kernel
theorem dL_law_913 : decode cL_law 913 = .ok (.iconst 0, 1) := by decide +kernel
theorem dL_law_914 : decode cL_law 914 = .ok (.ireturn, 1) := by decide +kernel
theorem dL_law_915 : decode cL_law 915 = .ok (.aload_n 1, 1) := by decide +kernel
theorem dL_law_916 : decode cL_law 916 = .ok (.aload 24, 2) := by decide +kernel
theorem dL_law_918 : decode cL_law 918 = .ok (.iload 28, 2) := by decide +kernel
theorem dL_law_920 : decode cL_law 920 = .ok (.iaload, 1) := by decide +kernel
theorem dL_law_921 : decode cL_law 921 = .ok (.invokevirtual 91, 3) := by decide +kernel
theorem dL_law_924 : decode cL_law 924 = .ok (.aload 22, 2) := by decide +kernel
theorem dL_law_926 : decode cL_law 926 = .ok (.iload 28, 2) := by decide +kernel
theorem dL_law_928 : decode cL_law 928 = .ok (.iaload, 1) := by decide +kernel
theorem dL_law_929 : decode cL_law 929 = .ok (.isub, 1) := by decide +kernel
theorem dL_law_930 : decode cL_law 930 = .ok (.istore 29, 2) := by decide +kernel
theorem dL_law_932 : decode cL_law 932 = .ok (.aload_n 1, 1) := by decide +kernel
theorem dL_law_933 : decode cL_law 933 = .ok (.iload 28, 2) := by decide +kernel
theorem dL_law_935 : decode cL_law 935 = .ok (.invokevirtual 143, 3) := by decide +kernel
theorem dL_law_938 : decode cL_law 938 = .ok (.aload 22, 2) := by decide +kernel
theorem dL_law_940 : decode cL_law 940 = .ok (.iload 28, 2) := by decide +kernel
theorem dL_law_942 : decode cL_law 942 = .ok (.iaload, 1) := by decide +kernel
theorem dL_law_943 : decode cL_law 943 = .ok (.isub, 1) := by decide +kernel
theorem dL_law_944 : decode cL_law 944 = .ok (.istore 30, 2) := by decide +kernel
theorem dL_law_946 : decode cL_law 946 = .ok (.iload 27, 2) := by decide +kernel
theorem dL_law_948 : decode cL_law 948 = .ok (.aload 25, 2) := by decide +kernel
theorem dL_law_950 : decode cL_law 950 = .ok (.iload 28, 2) := by decide +kernel
theorem dL_law_952 : decode cL_law 952 = .ok (.baload, 1) := by decide +kernel
theorem dL_law_953 : decode cL_law 953 = .ok (.ifCond .eq 16, 3) := by decide +kernel
theorem dL_law_956 : decode cL_law 956 = .ok (.aload_n 1, 1) := by decide +kernel
theorem dL_law_957 : decode cL_law 957 = .ok (.iload 28, 2) := by decide +kernel
theorem dL_law_959 : decode cL_law 959 = .ok (.invokevirtual 119, 3) := by decide +kernel
theorem dL_law_962 : decode cL_law 962 = .ok (.ifCond .eq 7, 3) := by decide +kernel
theorem dL_law_965 : decode cL_law 965 = .ok (.iconst 1, 1) := by decide +kernel
theorem dL_law_966 : decode cL_law 966 = .ok (.goto 4, 3) := by decide +kernel
theorem dL_law_969 : decode cL_law 969 = .ok (.iconst 0, 1) := by decide +kernel
theorem dL_law_970 : decode cL_law 970 = .ok (.iadd, 1) := by decide +kernel
theorem dL_law_971 : decode cL_law 971 = .ok (.istore 27, 2) := by decide +kernel
theorem dL_law_973 : decode cL_law 973 = .ok (.iload 29, 2) := by decide +kernel
theorem dL_law_975 : decode cL_law 975 = .ok (.ifCond .ne 7, 3) := by decide +kernel
theorem dL_law_978 : decode cL_law 978 = .ok (.iconst 1, 1) := by decide +kernel
theorem dL_law_979 : decode cL_law 979 = .ok (.goto 4, 3) := by decide +kernel
theorem dL_law_982 : decode cL_law 982 = .ok (.iconst 0, 1) := by decide +kernel
theorem dL_law_983 : decode cL_law 983 = .ok (.iload 30, 2) := by decide +kernel
theorem dL_law_985 : decode cL_law 985 = .ok (.ifCond .ne 7, 3) := by decide +kernel
theorem dL_law_988 : decode cL_law 988 = .ok (.iconst 1, 1) := by decide +kernel
theorem dL_law_989 : decode cL_law 989 = .ok (.goto 4, 3) := by decide +kernel
theorem dL_law_992 : decode cL_law 992 = .ok (.iconst 0, 1) := by decide +kernel
theorem dL_law_993 : decode cL_law 993 = .ok (.if_icmp .ne 111, 3) := by decide +kernel
theorem dL_law_996 : decode cL_law 996 = .ok (.iload 29, 2) := by decide +kernel
theorem dL_law_998 : decode cL_law 998 = .ok (.ifCond .le 16, 3) := by decide +kernel
theorem dL_law_1001 : decode cL_law 1001 = .ok (.iload 30, 2) := by decide +kernel
theorem dL_law_1003 : decode cL_law 1003 = .ok (.iconst 1, 1) := by decide +kernel
theorem dL_law_1004 : decode cL_law 1004 = .ok (.if_icmp .lt 100, 3) := by decide +kernel
theorem dL_law_1007 : decode cL_law 1007 = .ok (.iload 30, 2) := by decide +kernel
theorem dL_law_1009 : decode cL_law 1009 = .ok (.iload 29, 2) := by decide +kernel
theorem dL_law_1011 : decode cL_law 1011 = .ok (.if_icmp .gt 93, 3) := by decide +kernel
theorem dL_law_1014 : decode cL_law 1014 = .ok (.iload 29, 2) := by decide +kernel
theorem dL_law_1016 : decode cL_law 1016 = .ok (.ifCond .ge 16, 3) := by decide +kernel
theorem dL_law_1019 : decode cL_law 1019 = .ok (.iload 30, 2) := by decide +kernel
theorem dL_law_1021 : decode cL_law 1021 = .ok (.iconst (-1), 1) := by decide +kernel
theorem dL_law_1022 : decode cL_law 1022 = .ok (.if_icmp .gt 82, 3) := by decide +kernel
theorem dL_law_1025 : decode cL_law 1025 = .ok (.iload 30, 2) := by decide +kernel
theorem dL_law_1027 : decode cL_law 1027 = .ok (.iload 29, 2) := by decide +kernel
theorem dL_law_1029 : decode cL_law 1029 = .ok (.if_icmp .lt 75, 3) := by decide +kernel
theorem dL_law_1032 : decode cL_law 1032 = .ok (.aload_n 1, 1) := by decide +kernel
theorem dL_law_1033 : decode cL_law 1033 = .ok (.iload 28, 2) := by decide +kernel
theorem dL_law_1035 : decode cL_law 1035 = .ok (.invokevirtual 125, 3) := by decide +kernel
theorem dL_law_1038 : decode cL_law 1038 = .ok (.aload 23, 2) := by decide +kernel
theorem dL_law_1040 : decode cL_law 1040 = .ok (.iload 28, 2) := by decide +kernel
theorem dL_law_1042 : decode cL_law 1042 = .ok (.iaload, 1) := by decide +kernel
theorem dL_law_1043 : decode cL_law 1043 = .ok (.aload_n 1, 1) := by decide +kernel
theorem dL_law_1044 : decode cL_law 1044 = .ok (.iload 28, 2) := by decide +kernel
theorem dL_law_1046 : decode cL_law 1046 = .ok (.invokevirtual 116, 3) := by decide +kernel
theorem dL_law_1049 : decode cL_law 1049 = .ok (.ifCond .eq 7, 3) := by decide +kernel
theorem dL_law_1052 : decode cL_law 1052 = .ok (.iconst 0, 1) := by decide +kernel
theorem dL_law_1053 : decode cL_law 1053 = .ok (.goto 4, 3) := by decide +kernel
theorem dL_law_1056 : decode cL_law 1056 = .ok (.iconst 1, 1) := by decide +kernel
theorem dL_law_1057 : decode cL_law 1057 = .ok (.iadd, 1) := by decide +kernel
theorem dL_law_1058 : decode cL_law 1058 = .ok (.if_icmp .ne 46, 3) := by decide +kernel
theorem dL_law_1061 : decode cL_law 1061 = .ok (.aload_n 1, 1) := by decide +kernel
theorem dL_law_1062 : decode cL_law 1062 = .ok (.iload 28, 2) := by decide +kernel
theorem dL_law_1064 : decode cL_law 1064 = .ok (.invokevirtual 116, 3) := by decide +kernel
theorem dL_law_1067 : decode cL_law 1067 = .ok (.ifCond .eq 14, 3) := by decide +kernel
theorem dL_law_1070 : decode cL_law 1070 = .ok (.aload_n 1, 1) := by decide +kernel
theorem dL_law_1071 : decode cL_law 1071 = .ok (.iload 28, 2) := by decide +kernel
theorem dL_law_1073 : decode cL_law 1073 = .ok (.invokevirtual 143, 3) := by decide +kernel
theorem dL_law_1076 : decode cL_law 1076 = .ok (.bipush (-4), 2) := by decide +kernel
theorem dL_law_1078 : decode cL_law 1078 = .ok (.if_icmp .gt 26, 3) := by decide +kernel
theorem dL_law_1081 : decode cL_law 1081 = .ok (.aload_n 1, 1) := by decide +kernel
theorem dL_law_1082 : decode cL_law 1082 = .ok (.iload 28, 2) := by decide +kernel
theorem dL_law_1084 : decode cL_law 1084 = .ok (.invokevirtual 113, 3) := by decide +kernel
theorem dL_law_1087 : decode cL_law 1087 = .ok (.aload_n 1, 1) := by decide +kernel
theorem dL_law_1088 : decode cL_law 1088 = .ok (.iload 28, 2) := by decide +kernel
theorem dL_law_1090 : decode cL_law 1090 = .ok (.invokevirtual 122, 3) := by decide +kernel
theorem dL_law_1093 : decode cL_law 1093 = .ok (.ifCond .ne 7, 3) := by decide +kernel
theorem dL_law_1096 : decode cL_law 1096 = .ok (.iconst 1, 1) := by decide +kernel
theorem dL_law_1097 : decode cL_law 1097 = .ok (.goto 4, 3) := by decide +kernel
theorem dL_law_1100 : decode cL_law 1100 = .ok (.iconst 0, 1) := by decide +kernel
theorem dL_law_1101 : decode cL_law 1101 = .ok (.if_icmp .eq 5, 3) := by decide +kernel
theorem dL_law_1104 : decode cL_law 1104 = .ok (.iconst 0, 1) := by decide +kernel
theorem dL_law_1105 : decode cL_law 1105 = .ok (.ireturn, 1) := by decide +kernel
theorem dL_law_1106 : decode cL_law 1106 = .ok (.iinc 28 1, 3) := by decide +kernel
theorem dL_law_1109 : decode cL_law 1109 = .ok (.goto (-248), 3) := by decide +kernel
theorem dL_law_1112 : decode cL_law 1112 = .ok (.iload 26, 2) := by decide +kernel
theorem dL_law_1114 : decode cL_law 1114 = .ok (.iload 27, 2) := by decide +kernel
theorem dL_law_1116 : decode cL_law 1116 = .ok (.if_icmp .ge 5, 3) := by decide +kernel
theorem dL_law_1119 : decode cL_law 1119 = .ok (.iconst 0, 1) := by decide +kernel
theorem dL_law_1120 : decode cL_law 1120 = .ok (.ireturn, 1) := by decide +kernel
theorem dL_law_1121 : decode cL_law 1121 = .ok (.iload 7, 2) := by decide +kernel
theorem dL_law_1123 : decode cL_law 1123 = .ok (.ifCond .ne 6, 3) := by decide +kernel
theorem dL_law_1126 : decode cL_law 1126 = .ok (.goto 148, 3) := by decide +kernel
theorem dL_law_1129 : decode cL_law 1129 = .ok (.iload 14, 2) := by decide +kernel
theorem dL_law_1131 : decode cL_law 1131 = .ok (.ifCond .le 31, 3) := by decide +kernel
theorem dL_law_1134 : decode cL_law 1134 = .ok (.iload 20, 2) := by decide +kernel
theorem dL_law_1136 : decode cL_law 1136 = .ok (.iload 14, 2) := by decide +kernel
theorem dL_law_1138 : decode cL_law 1138 = .ok (.if_icmp .gt 24, 3) := by decide +kernel
theorem dL_law_1141 : decode cL_law 1141 = .ok (.aload_n 1, 1) := by decide +kernel
theorem dL_law_1142 : decode cL_law 1142 = .ok (.iload 13, 2) := by decide +kernel
theorem dL_law_1144 : decode cL_law 1144 = .ok (.invokevirtual 116, 3) := by decide +kernel
theorem dL_law_1147 : decode cL_law 1147 = .ok (.iload 20, 2) := by decide +kernel
theorem dL_law_1149 : decode cL_law 1149 = .ok (.iload 14, 2) := by decide +kernel
theorem dL_law_1151 : decode cL_law 1151 = .ok (.if_icmp .ne 7, 3) := by decide +kernel
theorem dL_law_1154 : decode cL_law 1154 = .ok (.iconst 1, 1) := by decide +kernel
theorem dL_law_1155 : decode cL_law 1155 = .ok (.goto 4, 3) := by decide +kernel
theorem dL_law_1158 : decode cL_law 1158 = .ok (.iconst 0, 1) := by decide +kernel
theorem dL_law_1159 : decode cL_law 1159 = .ok (.if_icmp .ne 69, 3) := by decide +kernel
theorem dL_law_1162 : decode cL_law 1162 = .ok (.iload 15, 2) := by decide +kernel
theorem dL_law_1164 : decode cL_law 1164 = .ok (.ifCond .le 31, 3) := by decide +kernel
theorem dL_law_1167 : decode cL_law 1167 = .ok (.iload 20, 2) := by decide +kernel
theorem dL_law_1169 : decode cL_law 1169 = .ok (.iload 15, 2) := by decide +kernel
theorem dL_law_1171 : decode cL_law 1171 = .ok (.if_icmp .gt 24, 3) := by decide +kernel
theorem dL_law_1174 : decode cL_law 1174 = .ok (.aload_n 1, 1) := by decide +kernel
theorem dL_law_1175 : decode cL_law 1175 = .ok (.iload 13, 2) := by decide +kernel
theorem dL_law_1177 : decode cL_law 1177 = .ok (.invokevirtual 119, 3) := by decide +kernel
theorem dL_law_1180 : decode cL_law 1180 = .ok (.iload 20, 2) := by decide +kernel
theorem dL_law_1182 : decode cL_law 1182 = .ok (.iload 15, 2) := by decide +kernel
theorem dL_law_1184 : decode cL_law 1184 = .ok (.if_icmp .ne 7, 3) := by decide +kernel
theorem dL_law_1187 : decode cL_law 1187 = .ok (.iconst 1, 1) := by decide +kernel
theorem dL_law_1188 : decode cL_law 1188 = .ok (.goto 4, 3) := by decide +kernel
theorem dL_law_1191 : decode cL_law 1191 = .ok (.iconst 0, 1) := by decide +kernel
theorem dL_law_1192 : decode cL_law 1192 = .ok (.if_icmp .ne 36, 3) := by decide +kernel
theorem dL_law_1195 : decode cL_law 1195 = .ok (.iload 16, 2) := by decide +kernel
theorem dL_law_1197 : decode cL_law 1197 = .ok (.ifCond .le 33, 3) := by decide +kernel
theorem dL_law_1200 : decode cL_law 1200 = .ok (.iload 20, 2) := by decide +kernel
theorem dL_law_1202 : decode cL_law 1202 = .ok (.iload 16, 2) := by decide +kernel
theorem dL_law_1204 : decode cL_law 1204 = .ok (.if_icmp .gt 26, 3) := by decide +kernel
theorem dL_law_1207 : decode cL_law 1207 = .ok (.aload_n 1, 1) := by decide +kernel
theorem dL_law_1208 : decode cL_law 1208 = .ok (.iload 13, 2) := by decide +kernel
theorem dL_law_1210 : decode cL_law 1210 = .ok (.invokevirtual 113, 3) := by decide +kernel
theorem dL_law_1213 : decode cL_law 1213 = .ok (.iload 20, 2) := by decide +kernel
theorem dL_law_1215 : decode cL_law 1215 = .ok (.iload 16, 2) := by decide +kernel
theorem dL_law_1217 : decode cL_law 1217 = .ok (.if_icmp .ne 7, 3) := by decide +kernel
theorem dL_law_1220 : decode cL_law 1220 = .ok (.iconst 1, 1) := by decide +kernel
theorem dL_law_1221 : decode cL_law 1221 = .ok (.goto 4, 3) := by decide +kernel
theorem dL_law_1224 : decode cL_law 1224 = .ok (.iconst 0, 1) := by decide +kernel
theorem dL_law_1225 : decode cL_law 1225 = .ok (.if_icmp .eq 5, 3) := by decide +kernel
theorem dL_law_1228 : decode cL_law 1228 = .ok (.iconst 0, 1) := by decide +kernel
theorem dL_law_1229 : decode cL_law 1229 = .ok (.ireturn, 1) := by decide +kernel
theorem dL_law_1230 : decode cL_law 1230 = .ok (.iload 14, 2) := by decide +kernel
theorem dL_law_1232 : decode cL_law 1232 = .ok (.ifCond .ge 12, 3) := by decide +kernel
theorem dL_law_1235 : decode cL_law 1235 = .ok (.aload_n 1, 1) := by decide +kernel
theorem dL_law_1236 : decode cL_law 1236 = .ok (.iload 13, 2) := by decide +kernel
theorem dL_law_1238 : decode cL_law 1238 = .ok (.invokevirtual 116, 3) := by decide +kernel
theorem dL_law_1241 : decode cL_law 1241 = .ok (.ifCond .ne 31, 3) := by decide +kernel
theorem dL_law_1244 : decode cL_law 1244 = .ok (.iload 15, 2) := by decide +kernel
theorem dL_law_1246 : decode cL_law 1246 = .ok (.ifCond .ge 12, 3) := by decide +kernel
theorem dL_law_1249 : decode cL_law 1249 = .ok (.aload_n 1, 1) := by decide +kernel
theorem dL_law_1250 : decode cL_law 1250 = .ok (.iload 13, 2) := by decide +kernel
theorem dL_law_1252 : decode cL_law 1252 = .ok (.invokevirtual 119, 3) := by decide +kernel
theorem dL_law_1255 : decode cL_law 1255 = .ok (.ifCond .ne 17, 3) := by decide +kernel
theorem dL_law_1258 : decode cL_law 1258 = .ok (.iload 16, 2) := by decide +kernel
theorem dL_law_1260 : decode cL_law 1260 = .ok (.ifCond .ge 14, 3) := by decide +kernel
theorem dL_law_1263 : decode cL_law 1263 = .ok (.aload_n 1, 1) := by decide +kernel
theorem dL_law_1264 : decode cL_law 1264 = .ok (.iload 13, 2) := by decide +kernel
theorem dL_law_1266 : decode cL_law 1266 = .ok (.invokevirtual 113, 3) := by decide +kernel
theorem dL_law_1269 : decode cL_law 1269 = .ok (.ifCond .eq 5, 3) := by decide +kernel
theorem dL_law_1272 : decode cL_law 1272 = .ok (.iconst 0, 1) := by decide +kernel
theorem dL_law_1273 : decode cL_law 1273 = .ok (.ireturn, 1) := by decide +kernel
theorem dL_law_1274 : decode cL_law 1274 = .ok (.iinc 20 1, 3) := by decide +kernel
theorem dL_law_1277 : decode cL_law 1277 = .ok (.goto (-598), 3) := by decide +kernel
theorem dL_law_1280 : decode cL_law 1280 = .ok (.iconst 0, 1) := by decide +kernel
theorem dL_law_1281 : decode cL_law 1281 = .ok (.istore 20, 2) := by decide +kernel
theorem dL_law_1283 : decode cL_law 1283 = .ok (.iconst 0, 1) := by decide +kernel
theorem dL_law_1284 : decode cL_law 1284 = .ok (.istore 21, 2) := by decide +kernel
theorem dL_law_1286 : decode cL_law 1286 = .ok (.iload 21, 2) := by decide +kernel
theorem dL_law_1288 : decode cL_law 1288 = .ok (.iconst 5, 1) := by decide +kernel
theorem dL_law_1289 : decode cL_law 1289 = .ok (.if_icmp .ge 20, 3) := by decide +kernel
theorem dL_law_1292 : decode cL_law 1292 = .ok (.iload 20, 2) := by decide +kernel
theorem dL_law_1294 : decode cL_law 1294 = .ok (.aload_n 1, 1) := by decide +kernel
theorem dL_law_1295 : decode cL_law 1295 = .ok (.iload 21, 2) := by decide +kernel
theorem dL_law_1297 : decode cL_law 1297 = .ok (.invokevirtual 85, 3) := by decide +kernel
theorem dL_law_1300 : decode cL_law 1300 = .ok (.iadd, 1) := by decide +kernel
theorem dL_law_1301 : decode cL_law 1301 = .ok (.istore 20, 2) := by decide +kernel
theorem dL_law_1303 : decode cL_law 1303 = .ok (.iinc 21 1, 3) := by decide +kernel
theorem dL_law_1306 : decode cL_law 1306 = .ok (.goto (-20), 3) := by decide +kernel
theorem dL_law_1309 : decode cL_law 1309 = .ok (.iload 20, 2) := by decide +kernel
theorem dL_law_1311 : decode cL_law 1311 = .ok (.iload 19, 2) := by decide +kernel
theorem dL_law_1313 : decode cL_law 1313 = .ok (.if_icmp .eq 5, 3) := by decide +kernel
theorem dL_law_1316 : decode cL_law 1316 = .ok (.iconst 0, 1) := by decide +kernel
theorem dL_law_1317 : decode cL_law 1317 = .ok (.ireturn, 1) := by decide +kernel
theorem dL_law_1318 : decode cL_law 1318 = .ok (.aload_n 1, 1) := by decide +kernel
theorem dL_law_1319 : decode cL_law 1319 = .ok (.invokevirtual 137, 3) := by decide +kernel
theorem dL_law_1322 : decode cL_law 1322 = .ok (.istore 17, 2) := by decide +kernel
theorem dL_law_1324 : decode cL_law 1324 = .ok (.iload 17, 2) := by decide +kernel
theorem dL_law_1326 : decode cL_law 1326 = .ok (.ifCond .ge 6, 3) := by decide +kernel
theorem dL_law_1329 : decode cL_law 1329 = .ok (.goto 88, 3) := by decide +kernel
theorem dL_law_1332 : decode cL_law 1332 = .ok (.aload_n 1, 1) := by decide +kernel
theorem dL_law_1333 : decode cL_law 1333 = .ok (.iload 17, 2) := by decide +kernel
theorem dL_law_1335 : decode cL_law 1335 = .ok (.invokevirtual 91, 3) := by decide +kernel
theorem dL_law_1338 : decode cL_law 1338 = .ok (.istore 21, 2) := by decide +kernel
theorem dL_law_1340 : decode cL_law 1340 = .ok (.aload_n 1, 1) := by decide +kernel
theorem dL_law_1341 : decode cL_law 1341 = .ok (.invokevirtual 81, 3) := by decide +kernel
theorem dL_law_1344 : decode cL_law 1344 = .ok (.istore 22, 2) := by decide +kernel
theorem dL_law_1346 : decode cL_law 1346 = .ok (.aload_n 2, 1) := by decide +kernel
theorem dL_law_1347 : decode cL_law 1347 = .ok (.iload_n 3, 1) := by decide +kernel
theorem dL_law_1348 : decode cL_law 1348 = .ok (.bipush 6, 2) := by decide +kernel
theorem dL_law_1350 : decode cL_law 1350 = .ok (.irem, 1) := by decide +kernel
theorem dL_law_1351 : decode cL_law 1351 = .ok (.bipush 100, 2) := by decide +kernel
theorem dL_law_1353 : decode cL_law 1353 = .ok (.iload 17, 2) := by decide +kernel
theorem dL_law_1355 : decode cL_law 1355 = .ok (.invokevirtual 21, 3) := by decide +kernel
theorem dL_law_1358 : decode cL_law 1358 = .ok (.aload_n 1, 1) := by decide +kernel
theorem dL_law_1359 : decode cL_law 1359 = .ok (.iload_n 3, 1) := by decide +kernel
theorem dL_law_1360 : decode cL_law 1360 = .ok (.bipush 6, 2) := by decide +kernel
theorem dL_law_1362 : decode cL_law 1362 = .ok (.irem, 1) := by decide +kernel
theorem dL_law_1363 : decode cL_law 1363 = .ok (.bipush 100, 2) := by decide +kernel
theorem dL_law_1365 : decode cL_law 1365 = .ok (.iload 17, 2) := by decide +kernel
theorem dL_law_1367 : decode cL_law 1367 = .ok (.invokevirtual 25, 3) := by decide +kernel
theorem dL_law_1370 : decode cL_law 1370 = .ok (.iload 22, 2) := by decide +kernel
theorem dL_law_1372 : decode cL_law 1372 = .ok (.if_icmp .ne 43, 3) := by decide +kernel
theorem dL_law_1375 : decode cL_law 1375 = .ok (.aload_n 1, 1) := by decide +kernel
theorem dL_law_1376 : decode cL_law 1376 = .ok (.iload 17, 2) := by decide +kernel
theorem dL_law_1378 : decode cL_law 1378 = .ok (.invokevirtual 91, 3) := by decide +kernel
theorem dL_law_1381 : decode cL_law 1381 = .ok (.bipush 20, 2) := by decide +kernel
theorem dL_law_1383 : decode cL_law 1383 = .ok (.iload 21, 2) := by decide +kernel
theorem dL_law_1385 : decode cL_law 1385 = .ok (.iconst 2, 1) := by decide +kernel
theorem dL_law_1386 : decode cL_law 1386 = .ok (.iadd, 1) := by decide +kernel
theorem dL_law_1387 : decode cL_law 1387 = .ok (.invokestatic 153, 3) := by decide +kernel
theorem dL_law_1390 : decode cL_law 1390 = .ok (.if_icmp .ne 25, 3) := by decide +kernel
theorem dL_law_1393 : decode cL_law 1393 = .ok (.aload_n 1, 1) := by decide +kernel
theorem dL_law_1394 : decode cL_law 1394 = .ok (.iload 22, 2) := by decide +kernel
theorem dL_law_1396 : decode cL_law 1396 = .ok (.invokevirtual 128, 3) := by decide +kernel
theorem dL_law_1399 : decode cL_law 1399 = .ok (.iconst 1, 1) := by decide +kernel
theorem dL_law_1400 : decode cL_law 1400 = .ok (.if_icmp .lt 15, 3) := by decide +kernel
theorem dL_law_1403 : decode cL_law 1403 = .ok (.aload_n 1, 1) := by decide +kernel
theorem dL_law_1404 : decode cL_law 1404 = .ok (.iload 22, 2) := by decide +kernel
theorem dL_law_1406 : decode cL_law 1406 = .ok (.invokevirtual 128, 3) := by decide +kernel
theorem dL_law_1409 : decode cL_law 1409 = .ok (.sipush 200, 3) := by decide +kernel
theorem dL_law_1412 : decode cL_law 1412 = .ok (.if_icmp .le 5, 3) := by decide +kernel
theorem dL_law_1415 : decode cL_law 1415 = .ok (.iconst 0, 1) := by decide +kernel
theorem dL_law_1416 : decode cL_law 1416 = .ok (.ireturn, 1) := by decide +kernel
theorem dL_law_1417 : decode cL_law 1417 = .ok (.iinc 3 1, 3) := by decide +kernel
theorem dL_law_1420 : decode cL_law 1420 = .ok (.goto (-1398), 3) := by decide +kernel
theorem dL_law_1423 : decode cL_law 1423 = .ok (.aload_n 2, 1) := by decide +kernel
theorem dL_law_1424 : decode cL_law 1424 = .ok (.aload_n 1, 1) := by decide +kernel
theorem dL_law_1425 : decode cL_law 1425 = .ok (.invokevirtual 156, 3) := by decide +kernel
theorem dL_law_1428 : decode cL_law 1428 = .ok (.ireturn, 1) := by decide +kernel

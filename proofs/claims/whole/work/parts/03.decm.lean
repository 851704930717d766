theorem dX4_init_0 : decode cX4_init 0 = .ok (.aload_n 0, 1) := by decide +kernel
theorem dX4_init_1 : decode cX4_init 1 = .ok (.invokespecial 3, 3) := by decide +kernel
theorem dX4_init_4 : decode cX4_init 4 = .ok (.aload_n 0, 1) := by decide +kernel
theorem dX4_init_5 : decode cX4_init 5 = .ok (.bipush 20, 2) := by decide +kernel
theorem dX4_init_7 : decode cX4_init 7 = .ok (.newarray .int, 2) := by decide +kernel
theorem dX4_init_9 : decode cX4_init 9 = .ok (.putfield 9, 3) := by decide +kernel
theorem dX4_init_12 : decode cX4_init 12 = .ok (.aload_n 0, 1) := by decide +kernel
theorem dX4_init_13 : decode cX4_init 13 = .ok (.bipush 20, 2) := by decide +kernel
theorem dX4_init_15 : decode cX4_init 15 = .ok (.newarray .int, 2) := by decide +kernel
theorem dX4_init_17 : decode cX4_init 17 = .ok (.putfield 13, 3) := by decide +kernel
theorem dX4_init_20 : decode cX4_init 20 = .ok (.aload_n 0, 1) := by decide +kernel
theorem dX4_init_21 : decode cX4_init 21 = .ok (.bipush 113, 2) := by decide +kernel
theorem dX4_init_23 : decode cX4_init 23 = .ok (.newarray .int, 2) := by decide +kernel
theorem dX4_init_25 : decode cX4_init 25 = .ok (.putfield 16, 3) := by decide +kernel
theorem dX4_init_28 : decode cX4_init 28 = .ok (.aload_n 0, 1) := by decide +kernel
theorem dX4_init_29 : decode cX4_init 29 = .ok (.bipush 113, 2) := by decide +kernel
theorem dX4_init_31 : decode cX4_init 31 = .ok (.newarray .int, 2) := by decide +kernel
theorem dX4_init_33 : decode cX4_init 33 = .ok (.putfield 19, 3) := by decide +kernel
theorem dX4_init_36 : decode cX4_init 36 = .ok (.aload_n 0, 1) := by decide +kernel
theorem dX4_init_37 : decode cX4_init 37 = .ok (.getfield 16, 3) := by decide +kernel
theorem dX4_init_40 : decode cX4_init 40 = .ok (.iconst 1, 1) := by decide +kernel
theorem dX4_init_41 : decode cX4_init 41 = .ok (.iconst 1, 1) := by decide +kernel
theorem dX4_init_42 : decode cX4_init 42 = .ok (.iastore, 1) := by decide +kernel
theorem dX4_init_43 : decode cX4_init 43 = .ok (.iconst 0, 1) := by decide +kernel
theorem dX4_init_44 : decode cX4_init 44 = .ok (.istore_n 1, 1) := by decide +kernel
theorem dX4_init_45 : decode cX4_init 45 = .ok (.iload_n 1, 1) := by decide +kernel
theorem dX4_init_46 : decode cX4_init 46 = .ok (.iconst 5, 1) := by decide +kernel
theorem dX4_init_47 : decode cX4_init 47 = .ok (.if_icmp .ge 33, 3) := by decide +kernel
theorem dX4_init_50 : decode cX4_init 50 = .ok (.aload_n 0, 1) := by decide +kernel
theorem dX4_init_51 : decode cX4_init 51 = .ok (.getfield 16, 3) := by decide +kernel
theorem dX4_init_54 : decode cX4_init 54 = .ok (.iload_n 1, 1) := by decide +kernel
theorem dX4_init_55 : decode cX4_init 55 = .ok (.iconst 0, 1) := by decide +kernel
theorem dX4_init_56 : decode cX4_init 56 = .ok (.invokestatic 22, 3) := by decide +kernel
theorem dX4_init_59 : decode cX4_init 59 = .ok (.bipush (-18), 2) := by decide +kernel
theorem dX4_init_61 : decode cX4_init 61 = .ok (.iastore, 1) := by decide +kernel
theorem dX4_init_62 : decode cX4_init 62 = .ok (.aload_n 0, 1) := by decide +kernel
theorem dX4_init_63 : decode cX4_init 63 = .ok (.getfield 16, 3) := by decide +kernel
theorem dX4_init_66 : decode cX4_init 66 = .ok (.iload_n 1, 1) := by decide +kernel
theorem dX4_init_67 : decode cX4_init 67 = .ok (.iconst 1, 1) := by decide +kernel
theorem dX4_init_68 : decode cX4_init 68 = .ok (.invokestatic 22, 3) := by decide +kernel
theorem dX4_init_71 : decode cX4_init 71 = .ok (.bipush (-18), 2) := by decide +kernel
theorem dX4_init_73 : decode cX4_init 73 = .ok (.iastore, 1) := by decide +kernel
theorem dX4_init_74 : decode cX4_init 74 = .ok (.iinc 1 1, 3) := by decide +kernel
theorem dX4_init_77 : decode cX4_init 77 = .ok (.goto (-32), 3) := by decide +kernel
theorem dX4_init_80 : decode cX4_init 80 = .ok (.return_, 1) := by decide +kernel
theorem dX4_thrown_0 : decode cX4_thrown 0 = .ok (.aload_n 0, 1) := by decide +kernel
theorem dX4_thrown_1 : decode cX4_thrown 1 = .ok (.getfield 26, 3) := by decide +kernel
theorem dX4_thrown_4 : decode cX4_thrown 4 = .ok (.ireturn, 1) := by decide +kernel
theorem dX4_no_0 : decode cX4_no 0 = .ok (.aload_n 0, 1) := by decide +kernel
theorem dX4_no_1 : decode cX4_no 1 = .ok (.iload_n 1, 1) := by decide +kernel
theorem dX4_no_2 : decode cX4_no 2 = .ok (.putfield 26, 3) := by decide +kernel
theorem dX4_no_5 : decode cX4_no 5 = .ok (.iconst 0, 1) := by decide +kernel
theorem dX4_no_6 : decode cX4_no 6 = .ok (.ireturn, 1) := by decide +kernel
theorem dX4_isNot_0 : decode cX4_isNot 0 = .ok (.aload_n 0, 1) := by decide +kernel
theorem dX4_isNot_1 : decode cX4_isNot 1 = .ok (.iload_n 1, 1) := by decide +kernel
theorem dX4_isNot_2 : decode cX4_isNot 2 = .ok (.putfield 26, 3) := by decide +kernel
theorem dX4_isNot_5 : decode cX4_isNot 5 = .ok (.iconst 0, 1) := by decide +kernel
theorem dX4_isNot_6 : decode cX4_isNot 6 = .ok (.ireturn, 1) := by decide +kernel
theorem dX4_ok_0 : decode cX4_ok 0 = .ok (.aload_n 0, 1) := by decide +kernel
theorem dX4_ok_1 : decode cX4_ok 1 = .ok (.iconst 0, 1) := by decide +kernel
theorem dX4_ok_2 : decode cX4_ok 2 = .ok (.putfield 26, 3) := by decide +kernel
theorem dX4_ok_5 : decode cX4_ok 5 = .ok (.iload_n 1, 1) := by decide +kernel
theorem dX4_ok_6 : decode cX4_ok 6 = .ok (.ireturn, 1) := by decide +kernel
theorem dX4_isIn_0 : decode cX4_isIn 0 = .ok (.iload_n 0, 1) := by decide +kernel
theorem dX4_isIn_1 : decode cX4_isIn 1 = .ok (.iload_n 1, 1) := by decide +kernel
theorem dX4_isIn_2 : decode cX4_isIn 2 = .ok (.if_icmp .lt 12, 3) := by decide +kernel
theorem dX4_isIn_5 : decode cX4_isIn 5 = .ok (.iload_n 0, 1) := by decide +kernel
theorem dX4_isIn_6 : decode cX4_isIn 6 = .ok (.iload_n 2, 1) := by decide +kernel
theorem dX4_isIn_7 : decode cX4_isIn 7 = .ok (.if_icmp .gt 7, 3) := by decide +kernel
theorem dX4_isIn_10 : decode cX4_isIn 10 = .ok (.iconst 1, 1) := by decide +kernel
theorem dX4_isIn_11 : decode cX4_isIn 11 = .ok (.goto 4, 3) := by decide +kernel
theorem dX4_isIn_14 : decode cX4_isIn 14 = .ok (.iconst 0, 1) := by decide +kernel
theorem dX4_isIn_15 : decode cX4_isIn 15 = .ok (.ireturn, 1) := by decide +kernel
theorem dX4_isShelf_0 : decode cX4_isShelf 0 = .ok (.iload_n 0, 1) := by decide +kernel
theorem dX4_isShelf_1 : decode cX4_isShelf 1 = .ok (.iconst 0, 1) := by decide +kernel
theorem dX4_isShelf_2 : decode cX4_isShelf 2 = .ok (.iconst 4, 1) := by decide +kernel
theorem dX4_isShelf_3 : decode cX4_isShelf 3 = .ok (.invokestatic 30, 3) := by decide +kernel
theorem dX4_isShelf_6 : decode cX4_isShelf 6 = .ok (.ireturn, 1) := by decide +kernel
theorem dX4_isMaker_0 : decode cX4_isMaker 0 = .ok (.iload_n 0, 1) := by decide +kernel
theorem dX4_isMaker_1 : decode cX4_isMaker 1 = .ok (.iconst 0, 1) := by decide +kernel
theorem dX4_isMaker_2 : decode cX4_isMaker 2 = .ok (.iconst 5, 1) := by decide +kernel
theorem dX4_isMaker_3 : decode cX4_isMaker 3 = .ok (.invokestatic 30, 3) := by decide +kernel
theorem dX4_isMaker_6 : decode cX4_isMaker 6 = .ok (.ireturn, 1) := by decide +kernel
theorem dX4_isPromise_0 : decode cX4_isPromise 0 = .ok (.iload_n 1, 1) := by decide +kernel
theorem dX4_isPromise_1 : decode cX4_isPromise 1 = .ok (.iconst 0, 1) := by decide +kernel
theorem dX4_isPromise_2 : decode cX4_isPromise 2 = .ok (.aload_n 0, 1) := by decide +kernel
theorem dX4_isPromise_3 : decode cX4_isPromise 3 = .ok (.getfield 34, 3) := by decide +kernel
theorem dX4_isPromise_6 : decode cX4_isPromise 6 = .ok (.iconst 1, 1) := by decide +kernel
theorem dX4_isPromise_7 : decode cX4_isPromise 7 = .ok (.isub, 1) := by decide +kernel
theorem dX4_isPromise_8 : decode cX4_isPromise 8 = .ok (.invokestatic 30, 3) := by decide +kernel
theorem dX4_isPromise_11 : decode cX4_isPromise 11 = .ok (.ireturn, 1) := by decide +kernel
theorem dX4_shelf_0 : decode cX4_shelf 0 = .ok (.iconst 3, 1) := by decide +kernel
theorem dX4_shelf_1 : decode cX4_shelf 1 = .ok (.iconst 2, 1) := by decide +kernel
theorem dX4_shelf_2 : decode cX4_shelf 2 = .ok (.iload_n 0, 1) := by decide +kernel
theorem dX4_shelf_3 : decode cX4_shelf 3 = .ok (.imul, 1) := by decide +kernel
theorem dX4_shelf_4 : decode cX4_shelf 4 = .ok (.iadd, 1) := by decide +kernel
theorem dX4_shelf_5 : decode cX4_shelf 5 = .ok (.iload_n 1, 1) := by decide +kernel
theorem dX4_shelf_6 : decode cX4_shelf 6 = .ok (.iadd, 1) := by decide +kernel
theorem dX4_shelf_7 : decode cX4_shelf 7 = .ok (.ireturn, 1) := by decide +kernel
theorem dX4_of_0 : decode cX4_of 0 = .ok (.bipush 13, 2) := by decide +kernel
theorem dX4_of_2 : decode cX4_of 2 = .ok (.iconst 5, 1) := by decide +kernel
theorem dX4_of_3 : decode cX4_of 3 = .ok (.iload_n 0, 1) := by decide +kernel
theorem dX4_of_4 : decode cX4_of 4 = .ok (.imul, 1) := by decide +kernel
theorem dX4_of_5 : decode cX4_of 5 = .ok (.iadd, 1) := by decide +kernel
theorem dX4_of_6 : decode cX4_of 6 = .ok (.iload_n 1, 1) := by decide +kernel
theorem dX4_of_7 : decode cX4_of 7 = .ok (.iadd, 1) := by decide +kernel
theorem dX4_of_8 : decode cX4_of 8 = .ok (.ireturn, 1) := by decide +kernel
theorem dX4_lies_0 : decode cX4_lies 0 = .ok (.aload_n 0, 1) := by decide +kernel
theorem dX4_lies_1 : decode cX4_lies 1 = .ok (.getfield 16, 3) := by decide +kernel
theorem dX4_lies_4 : decode cX4_lies 4 = .ok (.iload_n 1, 1) := by decide +kernel
theorem dX4_lies_5 : decode cX4_lies 5 = .ok (.iconst 0, 1) := by decide +kernel
theorem dX4_lies_6 : decode cX4_lies 6 = .ok (.invokestatic 37, 3) := by decide +kernel
theorem dX4_lies_9 : decode cX4_lies 9 = .ok (.iaload, 1) := by decide +kernel
theorem dX4_lies_10 : decode cX4_lies 10 = .ok (.iconst (-1), 1) := by decide +kernel
theorem dX4_lies_11 : decode cX4_lies 11 = .ok (.if_icmp .eq 7, 3) := by decide +kernel
theorem dX4_lies_14 : decode cX4_lies 14 = .ok (.iconst 1, 1) := by decide +kernel
theorem dX4_lies_15 : decode cX4_lies 15 = .ok (.goto 4, 3) := by decide +kernel
theorem dX4_lies_18 : decode cX4_lies 18 = .ok (.iconst 0, 1) := by decide +kernel
theorem dX4_lies_19 : decode cX4_lies 19 = .ok (.ireturn, 1) := by decide +kernel
theorem dX4_keepAll_0 : decode cX4_keepAll 0 = .ok (.aload_n 0, 1) := by decide +kernel
theorem dX4_keepAll_1 : decode cX4_keepAll 1 = .ok (.getfield 16, 3) := by decide +kernel
theorem dX4_keepAll_4 : decode cX4_keepAll 4 = .ok (.iconst 0, 1) := by decide +kernel
theorem dX4_keepAll_5 : decode cX4_keepAll 5 = .ok (.aload_n 0, 1) := by decide +kernel
theorem dX4_keepAll_6 : decode cX4_keepAll 6 = .ok (.getfield 19, 3) := by decide +kernel
theorem dX4_keepAll_9 : decode cX4_keepAll 9 = .ok (.iconst 0, 1) := by decide +kernel
theorem dX4_keepAll_10 : decode cX4_keepAll 10 = .ok (.bipush 113, 2) := by decide +kernel
theorem dX4_keepAll_12 : decode cX4_keepAll 12 = .ok (.invokestatic 40, 3) := by decide +kernel
theorem dX4_keepAll_15 : decode cX4_keepAll 15 = .ok (.return_, 1) := by decide +kernel
theorem dX4_bringBack_0 : decode cX4_bringBack 0 = .ok (.aload_n 0, 1) := by decide +kernel
theorem dX4_bringBack_1 : decode cX4_bringBack 1 = .ok (.getfield 19, 3) := by decide +kernel
theorem dX4_bringBack_4 : decode cX4_bringBack 4 = .ok (.iconst 0, 1) := by decide +kernel
theorem dX4_bringBack_5 : decode cX4_bringBack 5 = .ok (.aload_n 0, 1) := by decide +kernel
theorem dX4_bringBack_6 : decode cX4_bringBack 6 = .ok (.getfield 16, 3) := by decide +kernel
theorem dX4_bringBack_9 : decode cX4_bringBack 9 = .ok (.iconst 0, 1) := by decide +kernel
theorem dX4_bringBack_10 : decode cX4_bringBack 10 = .ok (.bipush 113, 2) := by decide +kernel
theorem dX4_bringBack_12 : decode cX4_bringBack 12 = .ok (.invokestatic 40, 3) := by decide +kernel
theorem dX4_bringBack_15 : decode cX4_bringBack 15 = .ok (.return_, 1) := by decide +kernel
theorem dX4_open_0 : decode cX4_open 0 = .ok (.aload_n 0, 1) := by decide +kernel
theorem dX4_open_1 : decode cX4_open 1 = .ok (.getfield 16, 3) := by decide +kernel
theorem dX4_open_4 : decode cX4_open 4 = .ok (.iload_n 1, 1) := by decide +kernel
theorem dX4_open_5 : decode cX4_open 5 = .ok (.iconst 1, 1) := by decide +kernel
theorem dX4_open_6 : decode cX4_open 6 = .ok (.invokestatic 22, 3) := by decide +kernel
theorem dX4_open_9 : decode cX4_open 9 = .ok (.bipush 20, 2) := by decide +kernel
theorem dX4_open_11 : decode cX4_open 11 = .ok (.aload_n 0, 1) := by decide +kernel
theorem dX4_open_12 : decode cX4_open 12 = .ok (.getfield 16, 3) := by decide +kernel
theorem dX4_open_15 : decode cX4_open 15 = .ok (.iload_n 1, 1) := by decide +kernel
theorem dX4_open_16 : decode cX4_open 16 = .ok (.iconst 1, 1) := by decide +kernel
theorem dX4_open_17 : decode cX4_open 17 = .ok (.invokestatic 22, 3) := by decide +kernel
theorem dX4_open_20 : decode cX4_open 20 = .ok (.iaload, 1) := by decide +kernel
theorem dX4_open_21 : decode cX4_open 21 = .ok (.iconst 2, 1) := by decide +kernel
theorem dX4_open_22 : decode cX4_open 22 = .ok (.iadd, 1) := by decide +kernel
theorem dX4_open_23 : decode cX4_open 23 = .ok (.invokestatic 46, 3) := by decide +kernel
theorem dX4_open_26 : decode cX4_open 26 = .ok (.iastore, 1) := by decide +kernel
theorem dX4_open_27 : decode cX4_open 27 = .ok (.return_, 1) := by decide +kernel
theorem dX4_lay_0 : decode cX4_lay 0 = .ok (.aload_n 0, 1) := by decide +kernel
theorem dX4_lay_1 : decode cX4_lay 1 = .ok (.getfield 9, 3) := by decide +kernel
theorem dX4_lay_4 : decode cX4_lay 4 = .ok (.aload_n 0, 1) := by decide +kernel
theorem dX4_lay_5 : decode cX4_lay 5 = .ok (.getfield 34, 3) := by decide +kernel
theorem dX4_lay_8 : decode cX4_lay 8 = .ok (.iload_n 1, 1) := by decide +kernel
theorem dX4_lay_9 : decode cX4_lay 9 = .ok (.iastore, 1) := by decide +kernel
theorem dX4_lay_10 : decode cX4_lay 10 = .ok (.aload_n 0, 1) := by decide +kernel
theorem dX4_lay_11 : decode cX4_lay 11 = .ok (.getfield 13, 3) := by decide +kernel
theorem dX4_lay_14 : decode cX4_lay 14 = .ok (.aload_n 0, 1) := by decide +kernel
theorem dX4_lay_15 : decode cX4_lay 15 = .ok (.getfield 34, 3) := by decide +kernel
theorem dX4_lay_18 : decode cX4_lay 18 = .ok (.iload_n 2, 1) := by decide +kernel
theorem dX4_lay_19 : decode cX4_lay 19 = .ok (.iastore, 1) := by decide +kernel
theorem dX4_lay_20 : decode cX4_lay 20 = .ok (.aload_n 0, 1) := by decide +kernel
theorem dX4_lay_21 : decode cX4_lay 21 = .ok (.getfield 16, 3) := by decide +kernel
theorem dX4_lay_24 : decode cX4_lay 24 = .ok (.aload_n 0, 1) := by decide +kernel
theorem dX4_lay_25 : decode cX4_lay 25 = .ok (.getfield 34, 3) := by decide +kernel
theorem dX4_lay_28 : decode cX4_lay 28 = .ok (.iconst 0, 1) := by decide +kernel
theorem dX4_lay_29 : decode cX4_lay 29 = .ok (.invokestatic 37, 3) := by decide +kernel
theorem dX4_lay_32 : decode cX4_lay 32 = .ok (.iload_n 3, 1) := by decide +kernel
theorem dX4_lay_33 : decode cX4_lay 33 = .ok (.iastore, 1) := by decide +kernel
theorem dX4_lay_34 : decode cX4_lay 34 = .ok (.aload_n 0, 1) := by decide +kernel
theorem dX4_lay_35 : decode cX4_lay 35 = .ok (.getfield 16, 3) := by decide +kernel
theorem dX4_lay_38 : decode cX4_lay 38 = .ok (.aload_n 0, 1) := by decide +kernel
theorem dX4_lay_39 : decode cX4_lay 39 = .ok (.getfield 34, 3) := by decide +kernel
theorem dX4_lay_42 : decode cX4_lay 42 = .ok (.iconst 1, 1) := by decide +kernel
theorem dX4_lay_43 : decode cX4_lay 43 = .ok (.invokestatic 37, 3) := by decide +kernel
theorem dX4_lay_46 : decode cX4_lay 46 = .ok (.bipush 20, 2) := by decide +kernel
theorem dX4_lay_48 : decode cX4_lay 48 = .ok (.iastore, 1) := by decide +kernel
theorem dX4_lay_49 : decode cX4_lay 49 = .ok (.aload_n 0, 1) := by decide +kernel
theorem dX4_lay_50 : decode cX4_lay 50 = .ok (.getfield 16, 3) := by decide +kernel
theorem dX4_lay_53 : decode cX4_lay 53 = .ok (.aload_n 0, 1) := by decide +kernel
theorem dX4_lay_54 : decode cX4_lay 54 = .ok (.getfield 34, 3) := by decide +kernel
theorem dX4_lay_57 : decode cX4_lay 57 = .ok (.iconst 2, 1) := by decide +kernel
theorem dX4_lay_58 : decode cX4_lay 58 = .ok (.invokestatic 37, 3) := by decide +kernel
theorem dX4_lay_61 : decode cX4_lay 61 = .ok (.iconst 0, 1) := by decide +kernel
theorem dX4_lay_62 : decode cX4_lay 62 = .ok (.iastore, 1) := by decide +kernel
theorem dX4_lay_63 : decode cX4_lay 63 = .ok (.aload_n 0, 1) := by decide +kernel
theorem dX4_lay_64 : decode cX4_lay 64 = .ok (.getfield 16, 3) := by decide +kernel
theorem dX4_lay_67 : decode cX4_lay 67 = .ok (.aload_n 0, 1) := by decide +kernel
theorem dX4_lay_68 : decode cX4_lay 68 = .ok (.getfield 34, 3) := by decide +kernel
theorem dX4_lay_71 : decode cX4_lay 71 = .ok (.iconst 3, 1) := by decide +kernel
theorem dX4_lay_72 : decode cX4_lay 72 = .ok (.invokestatic 37, 3) := by decide +kernel
theorem dX4_lay_75 : decode cX4_lay 75 = .ok (.iconst 0, 1) := by decide +kernel
theorem dX4_lay_76 : decode cX4_lay 76 = .ok (.iastore, 1) := by decide +kernel
theorem dX4_lay_77 : decode cX4_lay 77 = .ok (.aload_n 0, 1) := by decide +kernel
theorem dX4_lay_78 : decode cX4_lay 78 = .ok (.getfield 16, 3) := by decide +kernel
theorem dX4_lay_81 : decode cX4_lay 81 = .ok (.aload_n 0, 1) := by decide +kernel
theorem dX4_lay_82 : decode cX4_lay 82 = .ok (.getfield 34, 3) := by decide +kernel
theorem dX4_lay_85 : decode cX4_lay 85 = .ok (.iconst 4, 1) := by decide +kernel
theorem dX4_lay_86 : decode cX4_lay 86 = .ok (.invokestatic 37, 3) := by decide +kernel
theorem dX4_lay_89 : decode cX4_lay 89 = .ok (.iconst 0, 1) := by decide +kernel
theorem dX4_lay_90 : decode cX4_lay 90 = .ok (.iastore, 1) := by decide +kernel
theorem dX4_lay_91 : decode cX4_lay 91 = .ok (.aload_n 0, 1) := by decide +kernel
theorem dX4_lay_92 : decode cX4_lay 92 = .ok (.dup, 1) := by decide +kernel
theorem dX4_lay_93 : decode cX4_lay 93 = .ok (.getfield 34, 3) := by decide +kernel
theorem dX4_lay_96 : decode cX4_lay 96 = .ok (.iconst 1, 1) := by decide +kernel
theorem dX4_lay_97 : decode cX4_lay 97 = .ok (.iadd, 1) := by decide +kernel
theorem dX4_lay_98 : decode cX4_lay 98 = .ok (.putfield 34, 3) := by decide +kernel
theorem dX4_lay_101 : decode cX4_lay 101 = .ok (.aload_n 0, 1) := by decide +kernel
theorem dX4_lay_102 : decode cX4_lay 102 = .ok (.iload_n 3, 1) := by decide +kernel
theorem dX4_lay_103 : decode cX4_lay 103 = .ok (.invokevirtual 51, 3) := by decide +kernel
theorem dX4_lay_106 : decode cX4_lay 106 = .ok (.return_, 1) := by decide +kernel
theorem dX4_towards_0 : decode cX4_towards 0 = .ok (.iload_n 0, 1) := by decide +kernel
theorem dX4_towards_1 : decode cX4_towards 1 = .ok (.iload_n 1, 1) := by decide +kernel
theorem dX4_towards_2 : decode cX4_towards 2 = .ok (.if_icmp .ge 13, 3) := by decide +kernel
theorem dX4_towards_5 : decode cX4_towards 5 = .ok (.iload_n 1, 1) := by decide +kernel
theorem dX4_towards_6 : decode cX4_towards 6 = .ok (.iload_n 0, 1) := by decide +kernel
theorem dX4_towards_7 : decode cX4_towards 7 = .ok (.iload_n 2, 1) := by decide +kernel
theorem dX4_towards_8 : decode cX4_towards 8 = .ok (.iadd, 1) := by decide +kernel
theorem dX4_towards_9 : decode cX4_towards 9 = .ok (.invokestatic 46, 3) := by decide +kernel
theorem dX4_towards_12 : decode cX4_towards 12 = .ok (.goto 10, 3) := by decide +kernel
theorem dX4_towards_15 : decode cX4_towards 15 = .ok (.iload_n 1, 1) := by decide +kernel
theorem dX4_towards_16 : decode cX4_towards 16 = .ok (.iload_n 0, 1) := by decide +kernel
theorem dX4_towards_17 : decode cX4_towards 17 = .ok (.iload_n 2, 1) := by decide +kernel
theorem dX4_towards_18 : decode cX4_towards 18 = .ok (.isub, 1) := by decide +kernel
theorem dX4_towards_19 : decode cX4_towards 19 = .ok (.invokestatic 55, 3) := by decide +kernel
theorem dX4_towards_22 : decode cX4_towards 22 = .ok (.ireturn, 1) := by decide +kernel
theorem dX4_warm_0 : decode cX4_warm 0 = .ok (.aload_n 0, 1) := by decide +kernel
theorem dX4_warm_1 : decode cX4_warm 1 = .ok (.getfield 16, 3) := by decide +kernel
theorem dX4_warm_4 : decode cX4_warm 4 = .ok (.iload_n 1, 1) := by decide +kernel
theorem dX4_warm_5 : decode cX4_warm 5 = .ok (.iconst 1, 1) := by decide +kernel
theorem dX4_warm_6 : decode cX4_warm 6 = .ok (.invokestatic 22, 3) := by decide +kernel
theorem dX4_warm_9 : decode cX4_warm 9 = .ok (.iaload, 1) := by decide +kernel
theorem dX4_warm_10 : decode cX4_warm 10 = .ok (.istore_n 2, 1) := by decide +kernel
theorem dX4_warm_11 : decode cX4_warm 11 = .ok (.aload_n 0, 1) := by decide +kernel
theorem dX4_warm_12 : decode cX4_warm 12 = .ok (.getfield 16, 3) := by decide +kernel
theorem dX4_warm_15 : decode cX4_warm 15 = .ok (.iload_n 1, 1) := by decide +kernel
theorem dX4_warm_16 : decode cX4_warm 16 = .ok (.iconst 1, 1) := by decide +kernel
theorem dX4_warm_17 : decode cX4_warm 17 = .ok (.invokestatic 22, 3) := by decide +kernel
theorem dX4_warm_20 : decode cX4_warm 20 = .ok (.aload_n 0, 1) := by decide +kernel
theorem dX4_warm_21 : decode cX4_warm 21 = .ok (.getfield 16, 3) := by decide +kernel
theorem dX4_warm_24 : decode cX4_warm 24 = .ok (.iconst 1, 1) := by decide +kernel
theorem dX4_warm_25 : decode cX4_warm 25 = .ok (.iaload, 1) := by decide +kernel
theorem dX4_warm_26 : decode cX4_warm 26 = .ok (.iconst 1, 1) := by decide +kernel
theorem dX4_warm_27 : decode cX4_warm 27 = .ok (.if_icmp .ne 21, 3) := by decide +kernel
theorem dX4_warm_30 : decode cX4_warm 30 = .ok (.iload_n 2, 1) := by decide +kernel
theorem dX4_warm_31 : decode cX4_warm 31 = .ok (.aload_n 0, 1) := by decide +kernel
theorem dX4_warm_32 : decode cX4_warm 32 = .ok (.getfield 16, 3) := by decide +kernel
theorem dX4_warm_35 : decode cX4_warm 35 = .ok (.iload_n 1, 1) := by decide +kernel
theorem dX4_warm_36 : decode cX4_warm 36 = .ok (.iconst 0, 1) := by decide +kernel
theorem dX4_warm_37 : decode cX4_warm 37 = .ok (.invokestatic 22, 3) := by decide +kernel
theorem dX4_warm_40 : decode cX4_warm 40 = .ok (.iaload, 1) := by decide +kernel
theorem dX4_warm_41 : decode cX4_warm 41 = .ok (.iconst 2, 1) := by decide +kernel
theorem dX4_warm_42 : decode cX4_warm 42 = .ok (.invokestatic 58, 3) := by decide +kernel
theorem dX4_warm_45 : decode cX4_warm 45 = .ok (.goto 11, 3) := by decide +kernel
theorem dX4_warm_48 : decode cX4_warm 48 = .ok (.bipush 20, 2) := by decide +kernel
theorem dX4_warm_50 : decode cX4_warm 50 = .ok (.iload_n 2, 1) := by decide +kernel
theorem dX4_warm_51 : decode cX4_warm 51 = .ok (.iconst 1, 1) := by decide +kernel
theorem dX4_warm_52 : decode cX4_warm 52 = .ok (.iadd, 1) := by decide +kernel
theorem dX4_warm_53 : decode cX4_warm 53 = .ok (.invokestatic 46, 3) := by decide +kernel
theorem dX4_warm_56 : decode cX4_warm 56 = .ok (.iastore, 1) := by decide +kernel
theorem dX4_warm_57 : decode cX4_warm 57 = .ok (.return_, 1) := by decide +kernel
theorem dX4_rings_0 : decode cX4_rings 0 = .ok (.aload_n 0, 1) := by decide +kernel
theorem dX4_rings_1 : decode cX4_rings 1 = .ok (.getfield 16, 3) := by decide +kernel
theorem dX4_rings_4 : decode cX4_rings 4 = .ok (.aload_n 0, 1) := by decide +kernel
theorem dX4_rings_5 : decode cX4_rings 5 = .ok (.getfield 16, 3) := by decide +kernel
theorem dX4_rings_8 : decode cX4_rings 8 = .ok (.iload_n 1, 1) := by decide +kernel
theorem dX4_rings_9 : decode cX4_rings 9 = .ok (.iconst 0, 1) := by decide +kernel
theorem dX4_rings_10 : decode cX4_rings 10 = .ok (.invokestatic 37, 3) := by decide +kernel
theorem dX4_rings_13 : decode cX4_rings 13 = .ok (.iaload, 1) := by decide +kernel
theorem dX4_rings_14 : decode cX4_rings 14 = .ok (.iconst 1, 1) := by decide +kernel
theorem dX4_rings_15 : decode cX4_rings 15 = .ok (.invokestatic 22, 3) := by decide +kernel
theorem dX4_rings_18 : decode cX4_rings 18 = .ok (.iaload, 1) := by decide +kernel
theorem dX4_rings_19 : decode cX4_rings 19 = .ok (.istore_n 2, 1) := by decide +kernel
theorem dX4_rings_20 : decode cX4_rings 20 = .ok (.aload_n 0, 1) := by decide +kernel
theorem dX4_rings_21 : decode cX4_rings 21 = .ok (.getfield 16, 3) := by decide +kernel
theorem dX4_rings_24 : decode cX4_rings 24 = .ok (.iload_n 1, 1) := by decide +kernel
theorem dX4_rings_25 : decode cX4_rings 25 = .ok (.iconst 1, 1) := by decide +kernel
theorem dX4_rings_26 : decode cX4_rings 26 = .ok (.invokestatic 37, 3) := by decide +kernel
theorem dX4_rings_29 : decode cX4_rings 29 = .ok (.iaload, 1) := by decide +kernel
theorem dX4_rings_30 : decode cX4_rings 30 = .ok (.istore_n 3, 1) := by decide +kernel
theorem dX4_rings_31 : decode cX4_rings 31 = .ok (.iload_n 3, 1) := by decide +kernel
theorem dX4_rings_32 : decode cX4_rings 32 = .ok (.iload_n 2, 1) := by decide +kernel
theorem dX4_rings_33 : decode cX4_rings 33 = .ok (.iconst 1, 1) := by decide +kernel
theorem dX4_rings_34 : decode cX4_rings 34 = .ok (.iload_n 2, 1) := by decide +kernel
theorem dX4_rings_35 : decode cX4_rings 35 = .ok (.iload_n 3, 1) := by decide +kernel
theorem dX4_rings_36 : decode cX4_rings 36 = .ok (.isub, 1) := by decide +kernel
theorem dX4_rings_37 : decode cX4_rings 37 = .ok (.invokestatic 62, 3) := by decide +kernel
theorem dX4_rings_40 : decode cX4_rings 40 = .ok (.iconst 2, 1) := by decide +kernel
theorem dX4_rings_41 : decode cX4_rings 41 = .ok (.idiv, 1) := by decide +kernel
theorem dX4_rings_42 : decode cX4_rings 42 = .ok (.invokestatic 55, 3) := by decide +kernel
theorem dX4_rings_45 : decode cX4_rings 45 = .ok (.invokestatic 58, 3) := by decide +kernel
theorem dX4_rings_48 : decode cX4_rings 48 = .ok (.istore_n 3, 1) := by decide +kernel
theorem dX4_rings_49 : decode cX4_rings 49 = .ok (.aload_n 0, 1) := by decide +kernel
theorem dX4_rings_50 : decode cX4_rings 50 = .ok (.getfield 16, 3) := by decide +kernel
theorem dX4_rings_53 : decode cX4_rings 53 = .ok (.iload_n 1, 1) := by decide +kernel
theorem dX4_rings_54 : decode cX4_rings 54 = .ok (.iconst 1, 1) := by decide +kernel
theorem dX4_rings_55 : decode cX4_rings 55 = .ok (.invokestatic 37, 3) := by decide +kernel
theorem dX4_rings_58 : decode cX4_rings 58 = .ok (.iload_n 3, 1) := by decide +kernel
theorem dX4_rings_59 : decode cX4_rings 59 = .ok (.iastore, 1) := by decide +kernel
theorem dX4_rings_60 : decode cX4_rings 60 = .ok (.aload_n 0, 1) := by decide +kernel
theorem dX4_rings_61 : decode cX4_rings 61 = .ok (.getfield 16, 3) := by decide +kernel
theorem dX4_rings_64 : decode cX4_rings 64 = .ok (.iload_n 1, 1) := by decide +kernel
theorem dX4_rings_65 : decode cX4_rings 65 = .ok (.iconst 3, 1) := by decide +kernel
theorem dX4_rings_66 : decode cX4_rings 66 = .ok (.invokestatic 37, 3) := by decide +kernel
theorem dX4_rings_69 : decode cX4_rings 69 = .ok (.iaload, 1) := by decide +kernel
theorem dX4_rings_70 : decode cX4_rings 70 = .ok (.ifCond .ne 20, 3) := by decide +kernel
theorem dX4_rings_73 : decode cX4_rings 73 = .ok (.iload_n 3, 1) := by decide +kernel
theorem dX4_rings_74 : decode cX4_rings 74 = .ok (.bipush (-10), 2) := by decide +kernel
theorem dX4_rings_76 : decode cX4_rings 76 = .ok (.if_icmp .gt 14, 3) := by decide +kernel
theorem dX4_rings_79 : decode cX4_rings 79 = .ok (.aload_n 0, 1) := by decide +kernel
theorem dX4_rings_80 : decode cX4_rings 80 = .ok (.getfield 16, 3) := by decide +kernel
theorem dX4_rings_83 : decode cX4_rings 83 = .ok (.iload_n 1, 1) := by decide +kernel
theorem dX4_rings_84 : decode cX4_rings 84 = .ok (.iconst 3, 1) := by decide +kernel
theorem dX4_rings_85 : decode cX4_rings 85 = .ok (.invokestatic 37, 3) := by decide +kernel
theorem dX4_rings_88 : decode cX4_rings 88 = .ok (.iconst 1, 1) := by decide +kernel
theorem dX4_rings_89 : decode cX4_rings 89 = .ok (.iastore, 1) := by decide +kernel
theorem dX4_rings_90 : decode cX4_rings 90 = .ok (.aload_n 0, 1) := by decide +kernel
theorem dX4_rings_91 : decode cX4_rings 91 = .ok (.getfield 16, 3) := by decide +kernel
theorem dX4_rings_94 : decode cX4_rings 94 = .ok (.iload_n 1, 1) := by decide +kernel
theorem dX4_rings_95 : decode cX4_rings 95 = .ok (.iconst 3, 1) := by decide +kernel
theorem dX4_rings_96 : decode cX4_rings 96 = .ok (.invokestatic 37, 3) := by decide +kernel
theorem dX4_rings_99 : decode cX4_rings 99 = .ok (.iaload, 1) := by decide +kernel
theorem dX4_rings_100 : decode cX4_rings 100 = .ok (.iconst 1, 1) := by decide +kernel
theorem dX4_rings_101 : decode cX4_rings 101 = .ok (.if_icmp .ne 9, 3) := by decide +kernel
theorem dX4_rings_104 : decode cX4_rings 104 = .ok (.iload_n 3, 1) := by decide +kernel
theorem dX4_rings_105 : decode cX4_rings 105 = .ok (.bipush (-4), 2) := by decide +kernel
theorem dX4_rings_107 : decode cX4_rings 107 = .ok (.if_icmp .gt 5, 3) := by decide +kernel
theorem dX4_rings_110 : decode cX4_rings 110 = .ok (.iconst 0, 1) := by decide +kernel
theorem dX4_rings_111 : decode cX4_rings 111 = .ok (.ireturn, 1) := by decide +kernel
theorem dX4_rings_112 : decode cX4_rings 112 = .ok (.aload_n 0, 1) := by decide +kernel
theorem dX4_rings_113 : decode cX4_rings 113 = .ok (.getfield 16, 3) := by decide +kernel
theorem dX4_rings_116 : decode cX4_rings 116 = .ok (.iload_n 1, 1) := by decide +kernel
theorem dX4_rings_117 : decode cX4_rings 117 = .ok (.iconst 3, 1) := by decide +kernel
theorem dX4_rings_118 : decode cX4_rings 118 = .ok (.invokestatic 37, 3) := by decide +kernel
theorem dX4_rings_121 : decode cX4_rings 121 = .ok (.iconst 2, 1) := by decide +kernel
theorem dX4_rings_122 : decode cX4_rings 122 = .ok (.iastore, 1) := by decide +kernel
theorem dX4_rings_123 : decode cX4_rings 123 = .ok (.iconst 1, 1) := by decide +kernel
theorem dX4_rings_124 : decode cX4_rings 124 = .ok (.ireturn, 1) := by decide +kernel
theorem dX4_getOlder_0 : decode cX4_getOlder 0 = .ok (.aload_n 0, 1) := by decide +kernel
theorem dX4_getOlder_1 : decode cX4_getOlder 1 = .ok (.getfield 16, 3) := by decide +kernel
theorem dX4_getOlder_4 : decode cX4_getOlder 4 = .ok (.iload_n 1, 1) := by decide +kernel
theorem dX4_getOlder_5 : decode cX4_getOlder 5 = .ok (.iconst 3, 1) := by decide +kernel
theorem dX4_getOlder_6 : decode cX4_getOlder 6 = .ok (.invokestatic 37, 3) := by decide +kernel
theorem dX4_getOlder_9 : decode cX4_getOlder 9 = .ok (.iaload, 1) := by decide +kernel
theorem dX4_getOlder_10 : decode cX4_getOlder 10 = .ok (.iconst 1, 1) := by decide +kernel
theorem dX4_getOlder_11 : decode cX4_getOlder 11 = .ok (.if_icmp .ne 4, 3) := by decide +kernel
theorem dX4_getOlder_14 : decode cX4_getOlder 14 = .ok (.return_, 1) := by decide +kernel
theorem dX4_getOlder_15 : decode cX4_getOlder 15 = .ok (.aload_n 0, 1) := by decide +kernel
theorem dX4_getOlder_16 : decode cX4_getOlder 16 = .ok (.getfield 16, 3) := by decide +kernel
theorem dX4_getOlder_19 : decode cX4_getOlder 19 = .ok (.iload_n 1, 1) := by decide +kernel
theorem dX4_getOlder_20 : decode cX4_getOlder 20 = .ok (.iconst 2, 1) := by decide +kernel
theorem dX4_getOlder_21 : decode cX4_getOlder 21 = .ok (.invokestatic 37, 3) := by decide +kernel
theorem dX4_getOlder_24 : decode cX4_getOlder 24 = .ok (.dup2, 1) := by decide +kernel
theorem dX4_getOlder_25 : decode cX4_getOlder 25 = .ok (.iaload, 1) := by decide +kernel
theorem dX4_getOlder_26 : decode cX4_getOlder 26 = .ok (.iconst 1, 1) := by decide +kernel
theorem dX4_getOlder_27 : decode cX4_getOlder 27 = .ok (.iadd, 1) := by decide +kernel
theorem dX4_getOlder_28 : decode cX4_getOlder 28 = .ok (.iastore, 1) := by decide +kernel
theorem dX4_getOlder_29 : decode cX4_getOlder 29 = .ok (.aload_n 0, 1) := by decide +kernel
theorem dX4_getOlder_30 : decode cX4_getOlder 30 = .ok (.getfield 16, 3) := by decide +kernel
theorem dX4_getOlder_33 : decode cX4_getOlder 33 = .ok (.iload_n 1, 1) := by decide +kernel
theorem dX4_getOlder_34 : decode cX4_getOlder 34 = .ok (.iconst 2, 1) := by decide +kernel
theorem dX4_getOlder_35 : decode cX4_getOlder 35 = .ok (.invokestatic 37, 3) := by decide +kernel
theorem dX4_getOlder_38 : decode cX4_getOlder 38 = .ok (.iaload, 1) := by decide +kernel
theorem dX4_getOlder_39 : decode cX4_getOlder 39 = .ok (.aload_n 0, 1) := by decide +kernel
theorem dX4_getOlder_40 : decode cX4_getOlder 40 = .ok (.getfield 13, 3) := by decide +kernel
theorem dX4_getOlder_43 : decode cX4_getOlder 43 = .ok (.iload_n 1, 1) := by decide +kernel
theorem dX4_getOlder_44 : decode cX4_getOlder 44 = .ok (.iaload, 1) := by decide +kernel
theorem dX4_getOlder_45 : decode cX4_getOlder 45 = .ok (.if_icmp .ge 4, 3) := by decide +kernel
theorem dX4_getOlder_48 : decode cX4_getOlder 48 = .ok (.return_, 1) := by decide +kernel
theorem dX4_getOlder_49 : decode cX4_getOlder 49 = .ok (.aload_n 0, 1) := by decide +kernel
theorem dX4_getOlder_50 : decode cX4_getOlder 50 = .ok (.getfield 16, 3) := by decide +kernel
theorem dX4_getOlder_53 : decode cX4_getOlder 53 = .ok (.iload_n 1, 1) := by decide +kernel
theorem dX4_getOlder_54 : decode cX4_getOlder 54 = .ok (.iconst 0, 1) := by decide +kernel
theorem dX4_getOlder_55 : decode cX4_getOlder 55 = .ok (.invokestatic 37, 3) := by decide +kernel
theorem dX4_getOlder_58 : decode cX4_getOlder 58 = .ok (.iconst (-1), 1) := by decide +kernel
theorem dX4_getOlder_59 : decode cX4_getOlder 59 = .ok (.iastore, 1) := by decide +kernel
theorem dX4_getOlder_60 : decode cX4_getOlder 60 = .ok (.aload_n 0, 1) := by decide +kernel
theorem dX4_getOlder_61 : decode cX4_getOlder 61 = .ok (.getfield 16, 3) := by decide +kernel
theorem dX4_getOlder_64 : decode cX4_getOlder 64 = .ok (.iload_n 1, 1) := by decide +kernel
theorem dX4_getOlder_65 : decode cX4_getOlder 65 = .ok (.iconst 4, 1) := by decide +kernel
theorem dX4_getOlder_66 : decode cX4_getOlder 66 = .ok (.invokestatic 37, 3) := by decide +kernel
theorem dX4_getOlder_69 : decode cX4_getOlder 69 = .ok (.iconst 2, 1) := by decide +kernel
theorem dX4_getOlder_70 : decode cX4_getOlder 70 = .ok (.iastore, 1) := by decide +kernel
theorem dX4_getOlder_71 : decode cX4_getOlder 71 = .ok (.return_, 1) := by decide +kernel
theorem dX4_hourOn_0 : decode cX4_hourOn 0 = .ok (.iconst 0, 1) := by decide +kernel
theorem dX4_hourOn_1 : decode cX4_hourOn 1 = .ok (.istore_n 1, 1) := by decide +kernel
theorem dX4_hourOn_2 : decode cX4_hourOn 2 = .ok (.iload_n 1, 1) := by decide +kernel
theorem dX4_hourOn_3 : decode cX4_hourOn 3 = .ok (.iconst 5, 1) := by decide +kernel
theorem dX4_hourOn_4 : decode cX4_hourOn 4 = .ok (.if_icmp .ge 14, 3) := by decide +kernel
theorem dX4_hourOn_7 : decode cX4_hourOn 7 = .ok (.aload_n 0, 1) := by decide +kernel
theorem dX4_hourOn_8 : decode cX4_hourOn 8 = .ok (.iload_n 1, 1) := by decide +kernel
theorem dX4_hourOn_9 : decode cX4_hourOn 9 = .ok (.invokevirtual 66, 3) := by decide +kernel
theorem dX4_hourOn_12 : decode cX4_hourOn 12 = .ok (.iinc 1 1, 3) := by decide +kernel
theorem dX4_hourOn_15 : decode cX4_hourOn 15 = .ok (.goto (-13), 3) := by decide +kernel
theorem dX4_hourOn_18 : decode cX4_hourOn 18 = .ok (.iconst 0, 1) := by decide +kernel
theorem dX4_hourOn_19 : decode cX4_hourOn 19 = .ok (.istore_n 1, 1) := by decide +kernel
theorem dX4_hourOn_20 : decode cX4_hourOn 20 = .ok (.iconst 0, 1) := by decide +kernel
theorem dX4_hourOn_21 : decode cX4_hourOn 21 = .ok (.istore_n 2, 1) := by decide +kernel
theorem dX4_hourOn_22 : decode cX4_hourOn 22 = .ok (.iload_n 2, 1) := by decide +kernel
theorem dX4_hourOn_23 : decode cX4_hourOn 23 = .ok (.aload_n 0, 1) := by decide +kernel
theorem dX4_hourOn_24 : decode cX4_hourOn 24 = .ok (.getfield 34, 3) := by decide +kernel
theorem dX4_hourOn_27 : decode cX4_hourOn 27 = .ok (.if_icmp .ge 41, 3) := by decide +kernel
theorem dX4_hourOn_30 : decode cX4_hourOn 30 = .ok (.aload_n 0, 1) := by decide +kernel
theorem dX4_hourOn_31 : decode cX4_hourOn 31 = .ok (.iload_n 2, 1) := by decide +kernel
theorem dX4_hourOn_32 : decode cX4_hourOn 32 = .ok (.invokevirtual 69, 3) := by decide +kernel
theorem dX4_hourOn_35 : decode cX4_hourOn 35 = .ok (.ifCond .ne 6, 3) := by decide +kernel
theorem dX4_hourOn_38 : decode cX4_hourOn 38 = .ok (.goto 24, 3) := by decide +kernel
theorem dX4_hourOn_41 : decode cX4_hourOn 41 = .ok (.iload_n 1, 1) := by decide +kernel
theorem dX4_hourOn_42 : decode cX4_hourOn 42 = .ok (.aload_n 0, 1) := by decide +kernel
theorem dX4_hourOn_43 : decode cX4_hourOn 43 = .ok (.iload_n 2, 1) := by decide +kernel
theorem dX4_hourOn_44 : decode cX4_hourOn 44 = .ok (.invokevirtual 73, 3) := by decide +kernel
theorem dX4_hourOn_47 : decode cX4_hourOn 47 = .ok (.ifCond .eq 7, 3) := by decide +kernel
theorem dX4_hourOn_50 : decode cX4_hourOn 50 = .ok (.iconst 1, 1) := by decide +kernel
theorem dX4_hourOn_51 : decode cX4_hourOn 51 = .ok (.goto 4, 3) := by decide +kernel
theorem dX4_hourOn_54 : decode cX4_hourOn 54 = .ok (.iconst 0, 1) := by decide +kernel
theorem dX4_hourOn_55 : decode cX4_hourOn 55 = .ok (.iadd, 1) := by decide +kernel
theorem dX4_hourOn_56 : decode cX4_hourOn 56 = .ok (.istore_n 1, 1) := by decide +kernel
theorem dX4_hourOn_57 : decode cX4_hourOn 57 = .ok (.aload_n 0, 1) := by decide +kernel
theorem dX4_hourOn_58 : decode cX4_hourOn 58 = .ok (.iload_n 2, 1) := by decide +kernel
theorem dX4_hourOn_59 : decode cX4_hourOn 59 = .ok (.invokevirtual 76, 3) := by decide +kernel
theorem dX4_hourOn_62 : decode cX4_hourOn 62 = .ok (.iinc 2 1, 3) := by decide +kernel
theorem dX4_hourOn_65 : decode cX4_hourOn 65 = .ok (.goto (-43), 3) := by decide +kernel
theorem dX4_hourOn_68 : decode cX4_hourOn 68 = .ok (.aload_n 0, 1) := by decide +kernel
theorem dX4_hourOn_69 : decode cX4_hourOn 69 = .ok (.getfield 16, 3) := by decide +kernel
theorem dX4_hourOn_72 : decode cX4_hourOn 72 = .ok (.iconst 2, 1) := by decide +kernel
theorem dX4_hourOn_73 : decode cX4_hourOn 73 = .ok (.dup2, 1) := by decide +kernel
theorem dX4_hourOn_74 : decode cX4_hourOn 74 = .ok (.iaload, 1) := by decide +kernel
theorem dX4_hourOn_75 : decode cX4_hourOn 75 = .ok (.iload_n 1, 1) := by decide +kernel
theorem dX4_hourOn_76 : decode cX4_hourOn 76 = .ok (.iadd, 1) := by decide +kernel
theorem dX4_hourOn_77 : decode cX4_hourOn 77 = .ok (.iastore, 1) := by decide +kernel
theorem dX4_hourOn_78 : decode cX4_hourOn 78 = .ok (.aload_n 0, 1) := by decide +kernel
theorem dX4_hourOn_79 : decode cX4_hourOn 79 = .ok (.getfield 16, 3) := by decide +kernel
theorem dX4_hourOn_82 : decode cX4_hourOn 82 = .ok (.iconst 0, 1) := by decide +kernel
theorem dX4_hourOn_83 : decode cX4_hourOn 83 = .ok (.dup2, 1) := by decide +kernel
theorem dX4_hourOn_84 : decode cX4_hourOn 84 = .ok (.iaload, 1) := by decide +kernel
theorem dX4_hourOn_85 : decode cX4_hourOn 85 = .ok (.iconst 1, 1) := by decide +kernel
theorem dX4_hourOn_86 : decode cX4_hourOn 86 = .ok (.iadd, 1) := by decide +kernel
theorem dX4_hourOn_87 : decode cX4_hourOn 87 = .ok (.iastore, 1) := by decide +kernel
theorem dX4_hourOn_88 : decode cX4_hourOn 88 = .ok (.iload_n 1, 1) := by decide +kernel
theorem dX4_hourOn_89 : decode cX4_hourOn 89 = .ok (.ireturn, 1) := by decide +kernel
theorem dX4_hoursOn_0 : decode cX4_hoursOn 0 = .ok (.iconst 0, 1) := by decide +kernel
theorem dX4_hoursOn_1 : decode cX4_hoursOn 1 = .ok (.istore_n 2, 1) := by decide +kernel
theorem dX4_hoursOn_2 : decode cX4_hoursOn 2 = .ok (.iconst 0, 1) := by decide +kernel
theorem dX4_hoursOn_3 : decode cX4_hoursOn 3 = .ok (.istore_n 3, 1) := by decide +kernel
theorem dX4_hoursOn_4 : decode cX4_hoursOn 4 = .ok (.iload_n 3, 1) := by decide +kernel
theorem dX4_hoursOn_5 : decode cX4_hoursOn 5 = .ok (.iload_n 1, 1) := by decide +kernel
theorem dX4_hoursOn_6 : decode cX4_hoursOn 6 = .ok (.if_icmp .ge 16, 3) := by decide +kernel
theorem dX4_hoursOn_9 : decode cX4_hoursOn 9 = .ok (.iload_n 2, 1) := by decide +kernel
theorem dX4_hoursOn_10 : decode cX4_hoursOn 10 = .ok (.aload_n 0, 1) := by decide +kernel
theorem dX4_hoursOn_11 : decode cX4_hoursOn 11 = .ok (.invokevirtual 79, 3) := by decide +kernel
theorem dX4_hoursOn_14 : decode cX4_hoursOn 14 = .ok (.iadd, 1) := by decide +kernel
theorem dX4_hoursOn_15 : decode cX4_hoursOn 15 = .ok (.istore_n 2, 1) := by decide +kernel
theorem dX4_hoursOn_16 : decode cX4_hoursOn 16 = .ok (.iinc 3 1, 3) := by decide +kernel
theorem dX4_hoursOn_19 : decode cX4_hoursOn 19 = .ok (.goto (-15), 3) := by decide +kernel
theorem dX4_hoursOn_22 : decode cX4_hoursOn 22 = .ok (.iload_n 2, 1) := by decide +kernel
theorem dX4_hoursOn_23 : decode cX4_hoursOn 23 = .ok (.ireturn, 1) := by decide +kernel
theorem dX4_make_0 : decode cX4_make 0 = .ok (.aload_n 0, 1) := by decide +kernel
theorem dX4_make_1 : decode cX4_make 1 = .ok (.iconst 0, 1) := by decide +kernel
theorem dX4_make_2 : decode cX4_make 2 = .ok (.putfield 26, 3) := by decide +kernel
theorem dX4_make_5 : decode cX4_make 5 = .ok (.iload_n 1, 1) := by decide +kernel
theorem dX4_make_6 : decode cX4_make 6 = .ok (.invokestatic 83, 3) := by decide +kernel
theorem dX4_make_9 : decode cX4_make 9 = .ok (.ifCond .eq 10, 3) := by decide +kernel
theorem dX4_make_12 : decode cX4_make 12 = .ok (.iload_n 3, 1) := by decide +kernel
theorem dX4_make_13 : decode cX4_make 13 = .ok (.invokestatic 86, 3) := by decide +kernel
theorem dX4_make_16 : decode cX4_make 16 = .ok (.ifCond .ne 9, 3) := by decide +kernel
theorem dX4_make_19 : decode cX4_make 19 = .ok (.aload_n 0, 1) := by decide +kernel
theorem dX4_make_20 : decode cX4_make 20 = .ok (.iconst 1, 1) := by decide +kernel
theorem dX4_make_21 : decode cX4_make 21 = .ok (.invokevirtual 89, 3) := by decide +kernel
theorem dX4_make_24 : decode cX4_make 24 = .ok (.ireturn, 1) := by decide +kernel
theorem dX4_make_25 : decode cX4_make 25 = .ok (.iload_n 2, 1) := by decide +kernel
theorem dX4_make_26 : decode cX4_make 26 = .ok (.iconst 1, 1) := by decide +kernel
theorem dX4_make_27 : decode cX4_make 27 = .ok (.bipush 100, 2) := by decide +kernel
theorem dX4_make_29 : decode cX4_make 29 = .ok (.invokestatic 30, 3) := by decide +kernel
theorem dX4_make_32 : decode cX4_make 32 = .ok (.ifCond .ne 9, 3) := by decide +kernel
theorem dX4_make_35 : decode cX4_make 35 = .ok (.aload_n 0, 1) := by decide +kernel
theorem dX4_make_36 : decode cX4_make 36 = .ok (.iconst 2, 1) := by decide +kernel
theorem dX4_make_37 : decode cX4_make 37 = .ok (.invokevirtual 89, 3) := by decide +kernel
theorem dX4_make_40 : decode cX4_make 40 = .ok (.ireturn, 1) := by decide +kernel
theorem dX4_make_41 : decode cX4_make 41 = .ok (.aload_n 0, 1) := by decide +kernel
theorem dX4_make_42 : decode cX4_make 42 = .ok (.getfield 34, 3) := by decide +kernel
theorem dX4_make_45 : decode cX4_make 45 = .ok (.bipush 20, 2) := by decide +kernel
theorem dX4_make_47 : decode cX4_make 47 = .ok (.if_icmp .ne 9, 3) := by decide +kernel
theorem dX4_make_50 : decode cX4_make 50 = .ok (.aload_n 0, 1) := by decide +kernel
theorem dX4_make_51 : decode cX4_make 51 = .ok (.iconst 3, 1) := by decide +kernel
theorem dX4_make_52 : decode cX4_make 52 = .ok (.invokevirtual 89, 3) := by decide +kernel
theorem dX4_make_55 : decode cX4_make 55 = .ok (.ireturn, 1) := by decide +kernel
theorem dX4_make_56 : decode cX4_make 56 = .ok (.aload_n 0, 1) := by decide +kernel
theorem dX4_make_57 : decode cX4_make 57 = .ok (.iload_n 1, 1) := by decide +kernel
theorem dX4_make_58 : decode cX4_make 58 = .ok (.iload_n 2, 1) := by decide +kernel
theorem dX4_make_59 : decode cX4_make 59 = .ok (.iload_n 3, 1) := by decide +kernel
theorem dX4_make_60 : decode cX4_make 60 = .ok (.invokevirtual 92, 3) := by decide +kernel
theorem dX4_make_63 : decode cX4_make 63 = .ok (.aload_n 0, 1) := by decide +kernel
theorem dX4_make_64 : decode cX4_make 64 = .ok (.getfield 34, 3) := by decide +kernel
theorem dX4_make_67 : decode cX4_make 67 = .ok (.iconst 1, 1) := by decide +kernel
theorem dX4_make_68 : decode cX4_make 68 = .ok (.isub, 1) := by decide +kernel
theorem dX4_make_69 : decode cX4_make 69 = .ok (.ireturn, 1) := by decide +kernel
theorem dX4_move_0 : decode cX4_move 0 = .ok (.aload_n 0, 1) := by decide +kernel
theorem dX4_move_1 : decode cX4_move 1 = .ok (.iconst 0, 1) := by decide +kernel
theorem dX4_move_2 : decode cX4_move 2 = .ok (.putfield 26, 3) := by decide +kernel
theorem dX4_move_5 : decode cX4_move 5 = .ok (.aload_n 0, 1) := by decide +kernel
theorem dX4_move_6 : decode cX4_move 6 = .ok (.iload_n 1, 1) := by decide +kernel
theorem dX4_move_7 : decode cX4_move 7 = .ok (.invokevirtual 96, 3) := by decide +kernel
theorem dX4_move_10 : decode cX4_move 10 = .ok (.ifCond .eq 10, 3) := by decide +kernel
theorem dX4_move_13 : decode cX4_move 13 = .ok (.iload_n 2, 1) := by decide +kernel
theorem dX4_move_14 : decode cX4_move 14 = .ok (.invokestatic 86, 3) := by decide +kernel
theorem dX4_move_17 : decode cX4_move 17 = .ok (.ifCond .ne 9, 3) := by decide +kernel
theorem dX4_move_20 : decode cX4_move 20 = .ok (.aload_n 0, 1) := by decide +kernel
theorem dX4_move_21 : decode cX4_move 21 = .ok (.iconst 1, 1) := by decide +kernel
theorem dX4_move_22 : decode cX4_move 22 = .ok (.invokevirtual 89, 3) := by decide +kernel
theorem dX4_move_25 : decode cX4_move 25 = .ok (.ireturn, 1) := by decide +kernel
theorem dX4_move_26 : decode cX4_move 26 = .ok (.aload_n 0, 1) := by decide +kernel
theorem dX4_move_27 : decode cX4_move 27 = .ok (.getfield 16, 3) := by decide +kernel
theorem dX4_move_30 : decode cX4_move 30 = .ok (.iload_n 1, 1) := by decide +kernel
theorem dX4_move_31 : decode cX4_move 31 = .ok (.iconst 0, 1) := by decide +kernel
theorem dX4_move_32 : decode cX4_move 32 = .ok (.invokestatic 37, 3) := by decide +kernel
theorem dX4_move_35 : decode cX4_move 35 = .ok (.iaload, 1) := by decide +kernel
theorem dX4_move_36 : decode cX4_move 36 = .ok (.istore_n 3, 1) := by decide +kernel
theorem dX4_move_37 : decode cX4_move 37 = .ok (.iload_n 3, 1) := by decide +kernel
theorem dX4_move_38 : decode cX4_move 38 = .ok (.iconst (-1), 1) := by decide +kernel
theorem dX4_move_39 : decode cX4_move 39 = .ok (.if_icmp .eq 22, 3) := by decide +kernel
theorem dX4_move_42 : decode cX4_move 42 = .ok (.iload_n 3, 1) := by decide +kernel
theorem dX4_move_43 : decode cX4_move 43 = .ok (.iload_n 2, 1) := by decide +kernel
theorem dX4_move_44 : decode cX4_move 44 = .ok (.if_icmp .eq 17, 3) := by decide +kernel
theorem dX4_move_47 : decode cX4_move 47 = .ok (.aload_n 0, 1) := by decide +kernel
theorem dX4_move_48 : decode cX4_move 48 = .ok (.getfield 16, 3) := by decide +kernel
theorem dX4_move_51 : decode cX4_move 51 = .ok (.iload_n 1, 1) := by decide +kernel
theorem dX4_move_52 : decode cX4_move 52 = .ok (.iconst 3, 1) := by decide +kernel
theorem dX4_move_53 : decode cX4_move 53 = .ok (.invokestatic 37, 3) := by decide +kernel
theorem dX4_move_56 : decode cX4_move 56 = .ok (.iaload, 1) := by decide +kernel
theorem dX4_move_57 : decode cX4_move 57 = .ok (.iconst 2, 1) := by decide +kernel
theorem dX4_move_58 : decode cX4_move 58 = .ok (.if_icmp .ne 9, 3) := by decide +kernel
theorem dX4_move_61 : decode cX4_move 61 = .ok (.aload_n 0, 1) := by decide +kernel
theorem dX4_move_62 : decode cX4_move 62 = .ok (.iconst 2, 1) := by decide +kernel
theorem dX4_move_63 : decode cX4_move 63 = .ok (.invokevirtual 89, 3) := by decide +kernel
theorem dX4_move_66 : decode cX4_move 66 = .ok (.ireturn, 1) := by decide +kernel
theorem dX4_move_67 : decode cX4_move 67 = .ok (.aload_n 0, 1) := by decide +kernel
theorem dX4_move_68 : decode cX4_move 68 = .ok (.getfield 16, 3) := by decide +kernel
theorem dX4_move_71 : decode cX4_move 71 = .ok (.iload_n 1, 1) := by decide +kernel
theorem dX4_move_72 : decode cX4_move 72 = .ok (.iconst 0, 1) := by decide +kernel
theorem dX4_move_73 : decode cX4_move 73 = .ok (.invokestatic 37, 3) := by decide +kernel
theorem dX4_move_76 : decode cX4_move 76 = .ok (.iload_n 2, 1) := by decide +kernel
theorem dX4_move_77 : decode cX4_move 77 = .ok (.iastore, 1) := by decide +kernel
theorem dX4_move_78 : decode cX4_move 78 = .ok (.aload_n 0, 1) := by decide +kernel
theorem dX4_move_79 : decode cX4_move 79 = .ok (.iload_n 3, 1) := by decide +kernel
theorem dX4_move_80 : decode cX4_move 80 = .ok (.invokevirtual 51, 3) := by decide +kernel
theorem dX4_move_83 : decode cX4_move 83 = .ok (.aload_n 0, 1) := by decide +kernel
theorem dX4_move_84 : decode cX4_move 84 = .ok (.iload_n 2, 1) := by decide +kernel
theorem dX4_move_85 : decode cX4_move 85 = .ok (.invokevirtual 51, 3) := by decide +kernel
theorem dX4_move_88 : decode cX4_move 88 = .ok (.iload_n 3, 1) := by decide +kernel
theorem dX4_move_89 : decode cX4_move 89 = .ok (.ireturn, 1) := by decide +kernel
theorem dX4_keep_0 : decode cX4_keep 0 = .ok (.aload_n 0, 1) := by decide +kernel
theorem dX4_keep_1 : decode cX4_keep 1 = .ok (.iconst 0, 1) := by decide +kernel
theorem dX4_keep_2 : decode cX4_keep 2 = .ok (.putfield 26, 3) := by decide +kernel
theorem dX4_keep_5 : decode cX4_keep 5 = .ok (.aload_n 0, 1) := by decide +kernel
theorem dX4_keep_6 : decode cX4_keep 6 = .ok (.iload_n 1, 1) := by decide +kernel
theorem dX4_keep_7 : decode cX4_keep 7 = .ok (.invokevirtual 96, 3) := by decide +kernel
theorem dX4_keep_10 : decode cX4_keep 10 = .ok (.ifCond .ne 9, 3) := by decide +kernel
theorem dX4_keep_13 : decode cX4_keep 13 = .ok (.aload_n 0, 1) := by decide +kernel
theorem dX4_keep_14 : decode cX4_keep 14 = .ok (.iconst 1, 1) := by decide +kernel
theorem dX4_keep_15 : decode cX4_keep 15 = .ok (.invokevirtual 89, 3) := by decide +kernel
theorem dX4_keep_18 : decode cX4_keep 18 = .ok (.ireturn, 1) := by decide +kernel
theorem dX4_keep_19 : decode cX4_keep 19 = .ok (.aload_n 0, 1) := by decide +kernel
theorem dX4_keep_20 : decode cX4_keep 20 = .ok (.iload_n 1, 1) := by decide +kernel
theorem dX4_keep_21 : decode cX4_keep 21 = .ok (.invokevirtual 69, 3) := by decide +kernel
theorem dX4_keep_24 : decode cX4_keep 24 = .ok (.ifCond .ne 9, 3) := by decide +kernel
theorem dX4_keep_27 : decode cX4_keep 27 = .ok (.aload_n 0, 1) := by decide +kernel
theorem dX4_keep_28 : decode cX4_keep 28 = .ok (.iconst 2, 1) := by decide +kernel
theorem dX4_keep_29 : decode cX4_keep 29 = .ok (.invokevirtual 89, 3) := by decide +kernel
theorem dX4_keep_32 : decode cX4_keep 32 = .ok (.ireturn, 1) := by decide +kernel
theorem dX4_keep_33 : decode cX4_keep 33 = .ok (.aload_n 0, 1) := by decide +kernel
theorem dX4_keep_34 : decode cX4_keep 34 = .ok (.aload_n 0, 1) := by decide +kernel
theorem dX4_keep_35 : decode cX4_keep 35 = .ok (.getfield 16, 3) := by decide +kernel
theorem dX4_keep_38 : decode cX4_keep 38 = .ok (.iload_n 1, 1) := by decide +kernel
theorem dX4_keep_39 : decode cX4_keep 39 = .ok (.iconst 0, 1) := by decide +kernel
theorem dX4_keep_40 : decode cX4_keep 40 = .ok (.invokestatic 37, 3) := by decide +kernel
theorem dX4_keep_43 : decode cX4_keep 43 = .ok (.iaload, 1) := by decide +kernel
theorem dX4_keep_44 : decode cX4_keep 44 = .ok (.invokevirtual 51, 3) := by decide +kernel
theorem dX4_keep_47 : decode cX4_keep 47 = .ok (.aload_n 0, 1) := by decide +kernel
theorem dX4_keep_48 : decode cX4_keep 48 = .ok (.getfield 16, 3) := by decide +kernel
theorem dX4_keep_51 : decode cX4_keep 51 = .ok (.iload_n 1, 1) := by decide +kernel
theorem dX4_keep_52 : decode cX4_keep 52 = .ok (.iconst 0, 1) := by decide +kernel
theorem dX4_keep_53 : decode cX4_keep 53 = .ok (.invokestatic 37, 3) := by decide +kernel
theorem dX4_keep_56 : decode cX4_keep 56 = .ok (.iconst (-1), 1) := by decide +kernel
theorem dX4_keep_57 : decode cX4_keep 57 = .ok (.iastore, 1) := by decide +kernel
theorem dX4_keep_58 : decode cX4_keep 58 = .ok (.aload_n 0, 1) := by decide +kernel
theorem dX4_keep_59 : decode cX4_keep 59 = .ok (.getfield 16, 3) := by decide +kernel
theorem dX4_keep_62 : decode cX4_keep 62 = .ok (.iload_n 1, 1) := by decide +kernel
theorem dX4_keep_63 : decode cX4_keep 63 = .ok (.iconst 4, 1) := by decide +kernel
theorem dX4_keep_64 : decode cX4_keep 64 = .ok (.invokestatic 37, 3) := by decide +kernel
theorem dX4_keep_67 : decode cX4_keep 67 = .ok (.iconst 1, 1) := by decide +kernel
theorem dX4_keep_68 : decode cX4_keep 68 = .ok (.iastore, 1) := by decide +kernel
theorem dX4_keep_69 : decode cX4_keep 69 = .ok (.aload_n 0, 1) := by decide +kernel
theorem dX4_keep_70 : decode cX4_keep 70 = .ok (.iload_n 1, 1) := by decide +kernel
theorem dX4_keep_71 : decode cX4_keep 71 = .ok (.invokevirtual 99, 3) := by decide +kernel
theorem dX4_keep_74 : decode cX4_keep 74 = .ok (.ireturn, 1) := by decide +kernel
theorem dX4_set_0 : decode cX4_set 0 = .ok (.aload_n 0, 1) := by decide +kernel
theorem dX4_set_1 : decode cX4_set 1 = .ok (.iconst 0, 1) := by decide +kernel
theorem dX4_set_2 : decode cX4_set 2 = .ok (.putfield 26, 3) := by decide +kernel
theorem dX4_set_5 : decode cX4_set 5 = .ok (.iload_n 1, 1) := by decide +kernel
theorem dX4_set_6 : decode cX4_set 6 = .ok (.invokestatic 86, 3) := by decide +kernel
theorem dX4_set_9 : decode cX4_set 9 = .ok (.ifCond .ne 9, 3) := by decide +kernel
theorem dX4_set_12 : decode cX4_set 12 = .ok (.aload_n 0, 1) := by decide +kernel
theorem dX4_set_13 : decode cX4_set 13 = .ok (.iconst 1, 1) := by decide +kernel
theorem dX4_set_14 : decode cX4_set 14 = .ok (.invokevirtual 89, 3) := by decide +kernel
theorem dX4_set_17 : decode cX4_set 17 = .ok (.ireturn, 1) := by decide +kernel
theorem dX4_set_18 : decode cX4_set 18 = .ok (.iload_n 2, 1) := by decide +kernel
theorem dX4_set_19 : decode cX4_set 19 = .ok (.bipush (-30), 2) := by decide +kernel
theorem dX4_set_21 : decode cX4_set 21 = .ok (.bipush (-5), 2) := by decide +kernel
theorem dX4_set_23 : decode cX4_set 23 = .ok (.invokestatic 30, 3) := by decide +kernel
theorem dX4_set_26 : decode cX4_set 26 = .ok (.ifCond .ne 9, 3) := by decide +kernel
theorem dX4_set_29 : decode cX4_set 29 = .ok (.aload_n 0, 1) := by decide +kernel
theorem dX4_set_30 : decode cX4_set 30 = .ok (.iconst 2, 1) := by decide +kernel
theorem dX4_set_31 : decode cX4_set 31 = .ok (.invokevirtual 89, 3) := by decide +kernel
theorem dX4_set_34 : decode cX4_set 34 = .ok (.ireturn, 1) := by decide +kernel
theorem dX4_set_35 : decode cX4_set 35 = .ok (.aload_n 0, 1) := by decide +kernel
theorem dX4_set_36 : decode cX4_set 36 = .ok (.getfield 16, 3) := by decide +kernel
theorem dX4_set_39 : decode cX4_set 39 = .ok (.iload_n 1, 1) := by decide +kernel
theorem dX4_set_40 : decode cX4_set 40 = .ok (.iconst 0, 1) := by decide +kernel
theorem dX4_set_41 : decode cX4_set 41 = .ok (.invokestatic 22, 3) := by decide +kernel
theorem dX4_set_44 : decode cX4_set 44 = .ok (.iaload, 1) := by decide +kernel
theorem dX4_set_45 : decode cX4_set 45 = .ok (.istore_n 3, 1) := by decide +kernel
theorem dX4_set_46 : decode cX4_set 46 = .ok (.aload_n 0, 1) := by decide +kernel
theorem dX4_set_47 : decode cX4_set 47 = .ok (.getfield 16, 3) := by decide +kernel
theorem dX4_set_50 : decode cX4_set 50 = .ok (.iload_n 1, 1) := by decide +kernel
theorem dX4_set_51 : decode cX4_set 51 = .ok (.iconst 0, 1) := by decide +kernel
theorem dX4_set_52 : decode cX4_set 52 = .ok (.invokestatic 22, 3) := by decide +kernel
theorem dX4_set_55 : decode cX4_set 55 = .ok (.iload_n 2, 1) := by decide +kernel
theorem dX4_set_56 : decode cX4_set 56 = .ok (.iastore, 1) := by decide +kernel
theorem dX4_set_57 : decode cX4_set 57 = .ok (.iload_n 3, 1) := by decide +kernel
theorem dX4_set_58 : decode cX4_set 58 = .ok (.ireturn, 1) := by decide +kernel
theorem dX4_switchPower_0 : decode cX4_switchPower 0 = .ok (.aload_n 0, 1) := by decide +kernel
theorem dX4_switchPower_1 : decode cX4_switchPower 1 = .ok (.iconst 0, 1) := by decide +kernel
theorem dX4_switchPower_2 : decode cX4_switchPower 2 = .ok (.putfield 26, 3) := by decide +kernel
theorem dX4_switchPower_5 : decode cX4_switchPower 5 = .ok (.aload_n 0, 1) := by decide +kernel
theorem dX4_switchPower_6 : decode cX4_switchPower 6 = .ok (.getfield 16, 3) := by decide +kernel
theorem dX4_switchPower_9 : decode cX4_switchPower 9 = .ok (.iconst 1, 1) := by decide +kernel
theorem dX4_switchPower_10 : decode cX4_switchPower 10 = .ok (.iconst 1, 1) := by decide +kernel
theorem dX4_switchPower_11 : decode cX4_switchPower 11 = .ok (.aload_n 0, 1) := by decide +kernel
theorem dX4_switchPower_12 : decode cX4_switchPower 12 = .ok (.getfield 16, 3) := by decide +kernel
theorem dX4_switchPower_15 : decode cX4_switchPower 15 = .ok (.iconst 1, 1) := by decide +kernel
theorem dX4_switchPower_16 : decode cX4_switchPower 16 = .ok (.iaload, 1) := by decide +kernel
theorem dX4_switchPower_17 : decode cX4_switchPower 17 = .ok (.isub, 1) := by decide +kernel
theorem dX4_switchPower_18 : decode cX4_switchPower 18 = .ok (.iastore, 1) := by decide +kernel
theorem dX4_switchPower_19 : decode cX4_switchPower 19 = .ok (.aload_n 0, 1) := by decide +kernel
theorem dX4_switchPower_20 : decode cX4_switchPower 20 = .ok (.getfield 16, 3) := by decide +kernel
theorem dX4_switchPower_23 : decode cX4_switchPower 23 = .ok (.iconst 1, 1) := by decide +kernel
theorem dX4_switchPower_24 : decode cX4_switchPower 24 = .ok (.iaload, 1) := by decide +kernel
theorem dX4_switchPower_25 : decode cX4_switchPower 25 = .ok (.iconst 1, 1) := by decide +kernel
theorem dX4_switchPower_26 : decode cX4_switchPower 26 = .ok (.if_icmp .ne 7, 3) := by decide +kernel
theorem dX4_switchPower_29 : decode cX4_switchPower 29 = .ok (.iconst 1, 1) := by decide +kernel
theorem dX4_switchPower_30 : decode cX4_switchPower 30 = .ok (.goto 4, 3) := by decide +kernel
theorem dX4_switchPower_33 : decode cX4_switchPower 33 = .ok (.iconst 0, 1) := by decide +kernel
theorem dX4_switchPower_34 : decode cX4_switchPower 34 = .ok (.ireturn, 1) := by decide +kernel
theorem dX4_pass_0 : decode cX4_pass 0 = .ok (.aload_n 0, 1) := by decide +kernel
theorem dX4_pass_1 : decode cX4_pass 1 = .ok (.iconst 0, 1) := by decide +kernel
theorem dX4_pass_2 : decode cX4_pass 2 = .ok (.putfield 26, 3) := by decide +kernel
theorem dX4_pass_5 : decode cX4_pass 5 = .ok (.iload_n 1, 1) := by decide +kernel
theorem dX4_pass_6 : decode cX4_pass 6 = .ok (.iconst 1, 1) := by decide +kernel
theorem dX4_pass_7 : decode cX4_pass 7 = .ok (.bipush 100, 2) := by decide +kernel
theorem dX4_pass_9 : decode cX4_pass 9 = .ok (.invokestatic 30, 3) := by decide +kernel
theorem dX4_pass_12 : decode cX4_pass 12 = .ok (.ifCond .eq 11, 3) := by decide +kernel
theorem dX4_pass_15 : decode cX4_pass 15 = .ok (.aload_n 0, 1) := by decide +kernel
theorem dX4_pass_16 : decode cX4_pass 16 = .ok (.iload_n 1, 1) := by decide +kernel
theorem dX4_pass_17 : decode cX4_pass 17 = .ok (.invokevirtual 102, 3) := by decide +kernel
theorem dX4_pass_20 : decode cX4_pass 20 = .ok (.goto 8, 3) := by decide +kernel
theorem dX4_pass_23 : decode cX4_pass 23 = .ok (.aload_n 0, 1) := by decide +kernel
theorem dX4_pass_24 : decode cX4_pass 24 = .ok (.iconst 1, 1) := by decide +kernel
theorem dX4_pass_25 : decode cX4_pass 25 = .ok (.invokevirtual 89, 3) := by decide +kernel
theorem dX4_pass_28 : decode cX4_pass 28 = .ok (.ireturn, 1) := by decide +kernel
theorem dX4_ofShelf_0 : decode cX4_ofShelf 0 = .ok (.aload_n 0, 1) := by decide +kernel
theorem dX4_ofShelf_1 : decode cX4_ofShelf 1 = .ok (.iconst 0, 1) := by decide +kernel
theorem dX4_ofShelf_2 : decode cX4_ofShelf 2 = .ok (.putfield 26, 3) := by decide +kernel
theorem dX4_ofShelf_5 : decode cX4_ofShelf 5 = .ok (.iload_n 1, 1) := by decide +kernel
theorem dX4_ofShelf_6 : decode cX4_ofShelf 6 = .ok (.invokestatic 86, 3) := by decide +kernel
theorem dX4_ofShelf_9 : decode cX4_ofShelf 9 = .ok (.ifCond .eq 16, 3) := by decide +kernel
theorem dX4_ofShelf_12 : decode cX4_ofShelf 12 = .ok (.aload_n 0, 1) := by decide +kernel
theorem dX4_ofShelf_13 : decode cX4_ofShelf 13 = .ok (.getfield 16, 3) := by decide +kernel
theorem dX4_ofShelf_16 : decode cX4_ofShelf 16 = .ok (.iload_n 1, 1) := by decide +kernel
theorem dX4_ofShelf_17 : decode cX4_ofShelf 17 = .ok (.iload_n 2, 1) := by decide +kernel
theorem dX4_ofShelf_18 : decode cX4_ofShelf 18 = .ok (.invokestatic 22, 3) := by decide +kernel
theorem dX4_ofShelf_21 : decode cX4_ofShelf 21 = .ok (.iaload, 1) := by decide +kernel
theorem dX4_ofShelf_22 : decode cX4_ofShelf 22 = .ok (.goto 8, 3) := by decide +kernel
theorem dX4_ofShelf_25 : decode cX4_ofShelf 25 = .ok (.aload_n 0, 1) := by decide +kernel
theorem dX4_ofShelf_26 : decode cX4_ofShelf 26 = .ok (.iconst 1, 1) := by decide +kernel
theorem dX4_ofShelf_27 : decode cX4_ofShelf 27 = .ok (.invokevirtual 89, 3) := by decide +kernel
theorem dX4_ofShelf_30 : decode cX4_ofShelf 30 = .ok (.ireturn, 1) := by decide +kernel
theorem dX4_hour_0 : decode cX4_hour 0 = .ok (.aload_n 0, 1) := by decide +kernel
theorem dX4_hour_1 : decode cX4_hour 1 = .ok (.aload_n 0, 1) := by decide +kernel
theorem dX4_hour_2 : decode cX4_hour 2 = .ok (.getfield 16, 3) := by decide +kernel
theorem dX4_hour_5 : decode cX4_hour 5 = .ok (.iconst 0, 1) := by decide +kernel
theorem dX4_hour_6 : decode cX4_hour 6 = .ok (.iaload, 1) := by decide +kernel
theorem dX4_hour_7 : decode cX4_hour 7 = .ok (.invokevirtual 105, 3) := by decide +kernel
theorem dX4_hour_10 : decode cX4_hour 10 = .ok (.ireturn, 1) := by decide +kernel
theorem dX4_hasPower_0 : decode cX4_hasPower 0 = .ok (.aload_n 0, 1) := by decide +kernel
theorem dX4_hasPower_1 : decode cX4_hasPower 1 = .ok (.iconst 0, 1) := by decide +kernel
theorem dX4_hasPower_2 : decode cX4_hasPower 2 = .ok (.putfield 26, 3) := by decide +kernel
theorem dX4_hasPower_5 : decode cX4_hasPower 5 = .ok (.aload_n 0, 1) := by decide +kernel
theorem dX4_hasPower_6 : decode cX4_hasPower 6 = .ok (.getfield 16, 3) := by decide +kernel
theorem dX4_hasPower_9 : decode cX4_hasPower 9 = .ok (.iconst 1, 1) := by decide +kernel
theorem dX4_hasPower_10 : decode cX4_hasPower 10 = .ok (.iaload, 1) := by decide +kernel
theorem dX4_hasPower_11 : decode cX4_hasPower 11 = .ok (.iconst 1, 1) := by decide +kernel
theorem dX4_hasPower_12 : decode cX4_hasPower 12 = .ok (.if_icmp .ne 7, 3) := by decide +kernel
theorem dX4_hasPower_15 : decode cX4_hasPower 15 = .ok (.iconst 1, 1) := by decide +kernel
theorem dX4_hasPower_16 : decode cX4_hasPower 16 = .ok (.goto 4, 3) := by decide +kernel
theorem dX4_hasPower_19 : decode cX4_hasPower 19 = .ok (.iconst 0, 1) := by decide +kernel
theorem dX4_hasPower_20 : decode cX4_hasPower 20 = .ok (.ireturn, 1) := by decide +kernel
theorem dX4_settingOf_0 : decode cX4_settingOf 0 = .ok (.aload_n 0, 1) := by decide +kernel
theorem dX4_settingOf_1 : decode cX4_settingOf 1 = .ok (.iload_n 1, 1) := by decide +kernel
theorem dX4_settingOf_2 : decode cX4_settingOf 2 = .ok (.iconst 0, 1) := by decide +kernel
theorem dX4_settingOf_3 : decode cX4_settingOf 3 = .ok (.invokevirtual 108, 3) := by decide +kernel
theorem dX4_settingOf_6 : decode cX4_settingOf 6 = .ok (.ireturn, 1) := by decide +kernel
theorem dX4_heatOn_0 : decode cX4_heatOn 0 = .ok (.aload_n 0, 1) := by decide +kernel
theorem dX4_heatOn_1 : decode cX4_heatOn 1 = .ok (.iload_n 1, 1) := by decide +kernel
theorem dX4_heatOn_2 : decode cX4_heatOn 2 = .ok (.iconst 1, 1) := by decide +kernel
theorem dX4_heatOn_3 : decode cX4_heatOn 3 = .ok (.invokevirtual 108, 3) := by decide +kernel
theorem dX4_heatOn_6 : decode cX4_heatOn 6 = .ok (.ireturn, 1) := by decide +kernel
theorem dX4_on_0 : decode cX4_on 0 = .ok (.iconst 0, 1) := by decide +kernel
theorem dX4_on_1 : decode cX4_on 1 = .ok (.istore_n 2, 1) := by decide +kernel
theorem dX4_on_2 : decode cX4_on 2 = .ok (.iconst 0, 1) := by decide +kernel
theorem dX4_on_3 : decode cX4_on 3 = .ok (.istore_n 3, 1) := by decide +kernel
theorem dX4_on_4 : decode cX4_on 4 = .ok (.iload_n 3, 1) := by decide +kernel
theorem dX4_on_5 : decode cX4_on 5 = .ok (.aload_n 0, 1) := by decide +kernel
theorem dX4_on_6 : decode cX4_on 6 = .ok (.getfield 34, 3) := by decide +kernel
theorem dX4_on_9 : decode cX4_on 9 = .ok (.if_icmp .ge 31, 3) := by decide +kernel
theorem dX4_on_12 : decode cX4_on 12 = .ok (.iload_n 2, 1) := by decide +kernel
theorem dX4_on_13 : decode cX4_on 13 = .ok (.aload_n 0, 1) := by decide +kernel
theorem dX4_on_14 : decode cX4_on 14 = .ok (.getfield 16, 3) := by decide +kernel
theorem dX4_on_17 : decode cX4_on 17 = .ok (.iload_n 3, 1) := by decide +kernel
theorem dX4_on_18 : decode cX4_on 18 = .ok (.iconst 0, 1) := by decide +kernel
theorem dX4_on_19 : decode cX4_on 19 = .ok (.invokestatic 37, 3) := by decide +kernel
theorem dX4_on_22 : decode cX4_on 22 = .ok (.iaload, 1) := by decide +kernel
theorem dX4_on_23 : decode cX4_on 23 = .ok (.iload_n 1, 1) := by decide +kernel
theorem dX4_on_24 : decode cX4_on 24 = .ok (.if_icmp .ne 7, 3) := by decide +kernel
theorem dX4_on_27 : decode cX4_on 27 = .ok (.iconst 1, 1) := by decide +kernel
theorem dX4_on_28 : decode cX4_on 28 = .ok (.goto 4, 3) := by decide +kernel
theorem dX4_on_31 : decode cX4_on 31 = .ok (.iconst 0, 1) := by decide +kernel
theorem dX4_on_32 : decode cX4_on 32 = .ok (.iadd, 1) := by decide +kernel
theorem dX4_on_33 : decode cX4_on 33 = .ok (.istore_n 2, 1) := by decide +kernel
theorem dX4_on_34 : decode cX4_on 34 = .ok (.iinc 3 1, 3) := by decide +kernel
theorem dX4_on_37 : decode cX4_on 37 = .ok (.goto (-33), 3) := by decide +kernel
theorem dX4_on_40 : decode cX4_on 40 = .ok (.iload_n 2, 1) := by decide +kernel
theorem dX4_on_41 : decode cX4_on 41 = .ok (.ireturn, 1) := by decide +kernel
theorem dX4_promisesOn_0 : decode cX4_promisesOn 0 = .ok (.aload_n 0, 1) := by decide +kernel
theorem dX4_promisesOn_1 : decode cX4_promisesOn 1 = .ok (.iconst 0, 1) := by decide +kernel
theorem dX4_promisesOn_2 : decode cX4_promisesOn 2 = .ok (.putfield 26, 3) := by decide +kernel
theorem dX4_promisesOn_5 : decode cX4_promisesOn 5 = .ok (.iload_n 1, 1) := by decide +kernel
theorem dX4_promisesOn_6 : decode cX4_promisesOn 6 = .ok (.invokestatic 86, 3) := by decide +kernel
theorem dX4_promisesOn_9 : decode cX4_promisesOn 9 = .ok (.ifCond .eq 11, 3) := by decide +kernel
theorem dX4_promisesOn_12 : decode cX4_promisesOn 12 = .ok (.aload_n 0, 1) := by decide +kernel
theorem dX4_promisesOn_13 : decode cX4_promisesOn 13 = .ok (.iload_n 1, 1) := by decide +kernel
theorem dX4_promisesOn_14 : decode cX4_promisesOn 14 = .ok (.invokevirtual 111, 3) := by decide +kernel
theorem dX4_promisesOn_17 : decode cX4_promisesOn 17 = .ok (.goto 8, 3) := by decide +kernel
theorem dX4_promisesOn_20 : decode cX4_promisesOn 20 = .ok (.aload_n 0, 1) := by decide +kernel
theorem dX4_promisesOn_21 : decode cX4_promisesOn 21 = .ok (.iconst 1, 1) := by decide +kernel
theorem dX4_promisesOn_22 : decode cX4_promisesOn 22 = .ok (.invokevirtual 89, 3) := by decide +kernel
theorem dX4_promisesOn_25 : decode cX4_promisesOn 25 = .ok (.ireturn, 1) := by decide +kernel
theorem dX4_coldestOf_0 : decode cX4_coldestOf 0 = .ok (.iconst 0, 1) := by decide +kernel
theorem dX4_coldestOf_1 : decode cX4_coldestOf 1 = .ok (.istore_n 1, 1) := by decide +kernel
theorem dX4_coldestOf_2 : decode cX4_coldestOf 2 = .ok (.iconst 1, 1) := by decide +kernel
theorem dX4_coldestOf_3 : decode cX4_coldestOf 3 = .ok (.istore_n 2, 1) := by decide +kernel
theorem dX4_coldestOf_4 : decode cX4_coldestOf 4 = .ok (.iload_n 2, 1) := by decide +kernel
theorem dX4_coldestOf_5 : decode cX4_coldestOf 5 = .ok (.iconst 5, 1) := by decide +kernel
theorem dX4_coldestOf_6 : decode cX4_coldestOf 6 = .ok (.if_icmp .ge 34, 3) := by decide +kernel
theorem dX4_coldestOf_9 : decode cX4_coldestOf 9 = .ok (.aload_n 0, 1) := by decide +kernel
theorem dX4_coldestOf_10 : decode cX4_coldestOf 10 = .ok (.getfield 16, 3) := by decide +kernel
theorem dX4_coldestOf_13 : decode cX4_coldestOf 13 = .ok (.iload_n 2, 1) := by decide +kernel
theorem dX4_coldestOf_14 : decode cX4_coldestOf 14 = .ok (.iconst 1, 1) := by decide +kernel
theorem dX4_coldestOf_15 : decode cX4_coldestOf 15 = .ok (.invokestatic 22, 3) := by decide +kernel
theorem dX4_coldestOf_18 : decode cX4_coldestOf 18 = .ok (.iaload, 1) := by decide +kernel
theorem dX4_coldestOf_19 : decode cX4_coldestOf 19 = .ok (.aload_n 0, 1) := by decide +kernel
theorem dX4_coldestOf_20 : decode cX4_coldestOf 20 = .ok (.getfield 16, 3) := by decide +kernel
theorem dX4_coldestOf_23 : decode cX4_coldestOf 23 = .ok (.iload_n 1, 1) := by decide +kernel
theorem dX4_coldestOf_24 : decode cX4_coldestOf 24 = .ok (.iconst 1, 1) := by decide +kernel
theorem dX4_coldestOf_25 : decode cX4_coldestOf 25 = .ok (.invokestatic 22, 3) := by decide +kernel
theorem dX4_coldestOf_28 : decode cX4_coldestOf 28 = .ok (.iaload, 1) := by decide +kernel
theorem dX4_coldestOf_29 : decode cX4_coldestOf 29 = .ok (.if_icmp .ge 5, 3) := by decide +kernel
theorem dX4_coldestOf_32 : decode cX4_coldestOf 32 = .ok (.iload_n 2, 1) := by decide +kernel
theorem dX4_coldestOf_33 : decode cX4_coldestOf 33 = .ok (.istore_n 1, 1) := by decide +kernel
theorem dX4_coldestOf_34 : decode cX4_coldestOf 34 = .ok (.iinc 2 1, 3) := by decide +kernel
theorem dX4_coldestOf_37 : decode cX4_coldestOf 37 = .ok (.goto (-33), 3) := by decide +kernel
theorem dX4_coldestOf_40 : decode cX4_coldestOf 40 = .ok (.iload_n 1, 1) := by decide +kernel
theorem dX4_coldestOf_41 : decode cX4_coldestOf 41 = .ok (.ireturn, 1) := by decide +kernel
theorem dX4_coldest_0 : decode cX4_coldest 0 = .ok (.aload_n 0, 1) := by decide +kernel
theorem dX4_coldest_1 : decode cX4_coldest 1 = .ok (.aload_n 0, 1) := by decide +kernel
theorem dX4_coldest_2 : decode cX4_coldest 2 = .ok (.invokevirtual 114, 3) := by decide +kernel
theorem dX4_coldest_5 : decode cX4_coldest 5 = .ok (.invokevirtual 105, 3) := by decide +kernel
theorem dX4_coldest_8 : decode cX4_coldest 8 = .ok (.ireturn, 1) := by decide +kernel
theorem dX4_alarms_0 : decode cX4_alarms 0 = .ok (.aload_n 0, 1) := by decide +kernel
theorem dX4_alarms_1 : decode cX4_alarms 1 = .ok (.aload_n 0, 1) := by decide +kernel
theorem dX4_alarms_2 : decode cX4_alarms 2 = .ok (.getfield 16, 3) := by decide +kernel
theorem dX4_alarms_5 : decode cX4_alarms 5 = .ok (.iconst 2, 1) := by decide +kernel
theorem dX4_alarms_6 : decode cX4_alarms 6 = .ok (.iaload, 1) := by decide +kernel
theorem dX4_alarms_7 : decode cX4_alarms 7 = .ok (.invokevirtual 105, 3) := by decide +kernel
theorem dX4_alarms_10 : decode cX4_alarms 10 = .ok (.ireturn, 1) := by decide +kernel
theorem dX4_ofPromise_0 : decode cX4_ofPromise 0 = .ok (.aload_n 0, 1) := by decide +kernel
theorem dX4_ofPromise_1 : decode cX4_ofPromise 1 = .ok (.iconst 0, 1) := by decide +kernel
theorem dX4_ofPromise_2 : decode cX4_ofPromise 2 = .ok (.putfield 26, 3) := by decide +kernel
theorem dX4_ofPromise_5 : decode cX4_ofPromise 5 = .ok (.aload_n 0, 1) := by decide +kernel
theorem dX4_ofPromise_6 : decode cX4_ofPromise 6 = .ok (.iload_n 1, 1) := by decide +kernel
theorem dX4_ofPromise_7 : decode cX4_ofPromise 7 = .ok (.invokevirtual 96, 3) := by decide +kernel
theorem dX4_ofPromise_10 : decode cX4_ofPromise 10 = .ok (.ifCond .eq 16, 3) := by decide +kernel
theorem dX4_ofPromise_13 : decode cX4_ofPromise 13 = .ok (.aload_n 0, 1) := by decide +kernel
theorem dX4_ofPromise_14 : decode cX4_ofPromise 14 = .ok (.getfield 16, 3) := by decide +kernel
theorem dX4_ofPromise_17 : decode cX4_ofPromise 17 = .ok (.iload_n 1, 1) := by decide +kernel
theorem dX4_ofPromise_18 : decode cX4_ofPromise 18 = .ok (.iload_n 2, 1) := by decide +kernel
theorem dX4_ofPromise_19 : decode cX4_ofPromise 19 = .ok (.invokestatic 37, 3) := by decide +kernel
theorem dX4_ofPromise_22 : decode cX4_ofPromise 22 = .ok (.iaload, 1) := by decide +kernel
theorem dX4_ofPromise_23 : decode cX4_ofPromise 23 = .ok (.goto 8, 3) := by decide +kernel
theorem dX4_ofPromise_26 : decode cX4_ofPromise 26 = .ok (.aload_n 0, 1) := by decide +kernel
theorem dX4_ofPromise_27 : decode cX4_ofPromise 27 = .ok (.iconst 1, 1) := by decide +kernel
theorem dX4_ofPromise_28 : decode cX4_ofPromise 28 = .ok (.invokevirtual 89, 3) := by decide +kernel
theorem dX4_ofPromise_31 : decode cX4_ofPromise 31 = .ok (.ireturn, 1) := by decide +kernel
theorem dX4_promises_0 : decode cX4_promises 0 = .ok (.aload_n 0, 1) := by decide +kernel
theorem dX4_promises_1 : decode cX4_promises 1 = .ok (.aload_n 0, 1) := by decide +kernel
theorem dX4_promises_2 : decode cX4_promises 2 = .ok (.getfield 34, 3) := by decide +kernel
theorem dX4_promises_5 : decode cX4_promises 5 = .ok (.invokevirtual 105, 3) := by decide +kernel
theorem dX4_promises_8 : decode cX4_promises 8 = .ok (.ireturn, 1) := by decide +kernel
theorem dX4_makerOf_0 : decode cX4_makerOf 0 = .ok (.aload_n 0, 1) := by decide +kernel
theorem dX4_makerOf_1 : decode cX4_makerOf 1 = .ok (.iconst 0, 1) := by decide +kernel
theorem dX4_makerOf_2 : decode cX4_makerOf 2 = .ok (.putfield 26, 3) := by decide +kernel
theorem dX4_makerOf_5 : decode cX4_makerOf 5 = .ok (.aload_n 0, 1) := by decide +kernel
theorem dX4_makerOf_6 : decode cX4_makerOf 6 = .ok (.iload_n 1, 1) := by decide +kernel
theorem dX4_makerOf_7 : decode cX4_makerOf 7 = .ok (.invokevirtual 96, 3) := by decide +kernel
theorem dX4_makerOf_10 : decode cX4_makerOf 10 = .ok (.ifCond .eq 12, 3) := by decide +kernel
theorem dX4_makerOf_13 : decode cX4_makerOf 13 = .ok (.aload_n 0, 1) := by decide +kernel
theorem dX4_makerOf_14 : decode cX4_makerOf 14 = .ok (.getfield 9, 3) := by decide +kernel
theorem dX4_makerOf_17 : decode cX4_makerOf 17 = .ok (.iload_n 1, 1) := by decide +kernel
theorem dX4_makerOf_18 : decode cX4_makerOf 18 = .ok (.iaload, 1) := by decide +kernel
theorem dX4_makerOf_19 : decode cX4_makerOf 19 = .ok (.goto 8, 3) := by decide +kernel
theorem dX4_makerOf_22 : decode cX4_makerOf 22 = .ok (.aload_n 0, 1) := by decide +kernel
theorem dX4_makerOf_23 : decode cX4_makerOf 23 = .ok (.iconst 1, 1) := by decide +kernel
theorem dX4_makerOf_24 : decode cX4_makerOf 24 = .ok (.invokevirtual 89, 3) := by decide +kernel
theorem dX4_makerOf_27 : decode cX4_makerOf 27 = .ok (.ireturn, 1) := by decide +kernel
theorem dX4_shelfOf_0 : decode cX4_shelfOf 0 = .ok (.aload_n 0, 1) := by decide +kernel
theorem dX4_shelfOf_1 : decode cX4_shelfOf 1 = .ok (.iload_n 1, 1) := by decide +kernel
theorem dX4_shelfOf_2 : decode cX4_shelfOf 2 = .ok (.iconst 0, 1) := by decide +kernel
theorem dX4_shelfOf_3 : decode cX4_shelfOf 3 = .ok (.invokevirtual 117, 3) := by decide +kernel
theorem dX4_shelfOf_6 : decode cX4_shelfOf 6 = .ok (.ireturn, 1) := by decide +kernel
theorem dX4_heatOf_0 : decode cX4_heatOf 0 = .ok (.aload_n 0, 1) := by decide +kernel
theorem dX4_heatOf_1 : decode cX4_heatOf 1 = .ok (.iload_n 1, 1) := by decide +kernel
theorem dX4_heatOf_2 : decode cX4_heatOf 2 = .ok (.iconst 1, 1) := by decide +kernel
theorem dX4_heatOf_3 : decode cX4_heatOf 3 = .ok (.invokevirtual 117, 3) := by decide +kernel
theorem dX4_heatOf_6 : decode cX4_heatOf 6 = .ok (.ireturn, 1) := by decide +kernel
theorem dX4_ageOf_0 : decode cX4_ageOf 0 = .ok (.aload_n 0, 1) := by decide +kernel
theorem dX4_ageOf_1 : decode cX4_ageOf 1 = .ok (.iload_n 1, 1) := by decide +kernel
theorem dX4_ageOf_2 : decode cX4_ageOf 2 = .ok (.iconst 2, 1) := by decide +kernel
theorem dX4_ageOf_3 : decode cX4_ageOf 3 = .ok (.invokevirtual 117, 3) := by decide +kernel
theorem dX4_ageOf_6 : decode cX4_ageOf 6 = .ok (.ireturn, 1) := by decide +kernel
theorem dX4_left_0 : decode cX4_left 0 = .ok (.aload_n 0, 1) := by decide +kernel
theorem dX4_left_1 : decode cX4_left 1 = .ok (.getfield 13, 3) := by decide +kernel
theorem dX4_left_4 : decode cX4_left 4 = .ok (.iload_n 1, 1) := by decide +kernel
theorem dX4_left_5 : decode cX4_left 5 = .ok (.iaload, 1) := by decide +kernel
theorem dX4_left_6 : decode cX4_left 6 = .ok (.aload_n 0, 1) := by decide +kernel
theorem dX4_left_7 : decode cX4_left 7 = .ok (.getfield 16, 3) := by decide +kernel
theorem dX4_left_10 : decode cX4_left 10 = .ok (.iload_n 1, 1) := by decide +kernel
theorem dX4_left_11 : decode cX4_left 11 = .ok (.iconst 2, 1) := by decide +kernel
theorem dX4_left_12 : decode cX4_left 12 = .ok (.invokestatic 37, 3) := by decide +kernel
theorem dX4_left_15 : decode cX4_left 15 = .ok (.iaload, 1) := by decide +kernel
theorem dX4_left_16 : decode cX4_left 16 = .ok (.isub, 1) := by decide +kernel
theorem dX4_left_17 : decode cX4_left 17 = .ok (.ireturn, 1) := by decide +kernel
theorem dX4_hoursLeft_0 : decode cX4_hoursLeft 0 = .ok (.aload_n 0, 1) := by decide +kernel
theorem dX4_hoursLeft_1 : decode cX4_hoursLeft 1 = .ok (.iconst 0, 1) := by decide +kernel
theorem dX4_hoursLeft_2 : decode cX4_hoursLeft 2 = .ok (.putfield 26, 3) := by decide +kernel
theorem dX4_hoursLeft_5 : decode cX4_hoursLeft 5 = .ok (.aload_n 0, 1) := by decide +kernel
theorem dX4_hoursLeft_6 : decode cX4_hoursLeft 6 = .ok (.iload_n 1, 1) := by decide +kernel
theorem dX4_hoursLeft_7 : decode cX4_hoursLeft 7 = .ok (.invokevirtual 96, 3) := by decide +kernel
theorem dX4_hoursLeft_10 : decode cX4_hoursLeft 10 = .ok (.ifCond .eq 11, 3) := by decide +kernel
theorem dX4_hoursLeft_13 : decode cX4_hoursLeft 13 = .ok (.aload_n 0, 1) := by decide +kernel
theorem dX4_hoursLeft_14 : decode cX4_hoursLeft 14 = .ok (.iload_n 1, 1) := by decide +kernel
theorem dX4_hoursLeft_15 : decode cX4_hoursLeft 15 = .ok (.invokevirtual 99, 3) := by decide +kernel
theorem dX4_hoursLeft_18 : decode cX4_hoursLeft 18 = .ok (.goto 8, 3) := by decide +kernel
theorem dX4_hoursLeft_21 : decode cX4_hoursLeft 21 = .ok (.aload_n 0, 1) := by decide +kernel
theorem dX4_hoursLeft_22 : decode cX4_hoursLeft 22 = .ok (.iconst 1, 1) := by decide +kernel
theorem dX4_hoursLeft_23 : decode cX4_hoursLeft 23 = .ok (.invokevirtual 89, 3) := by decide +kernel
theorem dX4_hoursLeft_26 : decode cX4_hoursLeft 26 = .ok (.ireturn, 1) := by decide +kernel
theorem dX4_isSo_0 : decode cX4_isSo 0 = .ok (.aload_n 0, 1) := by decide +kernel
theorem dX4_isSo_1 : decode cX4_isSo 1 = .ok (.iload_n 1, 1) := by decide +kernel
theorem dX4_isSo_2 : decode cX4_isSo 2 = .ok (.invokevirtual 69, 3) := by decide +kernel
theorem dX4_isSo_5 : decode cX4_isSo 5 = .ok (.ifCond .eq 21, 3) := by decide +kernel
theorem dX4_isSo_8 : decode cX4_isSo 8 = .ok (.aload_n 0, 1) := by decide +kernel
theorem dX4_isSo_9 : decode cX4_isSo 9 = .ok (.getfield 16, 3) := by decide +kernel
theorem dX4_isSo_12 : decode cX4_isSo 12 = .ok (.iload_n 1, 1) := by decide +kernel
theorem dX4_isSo_13 : decode cX4_isSo 13 = .ok (.iconst 3, 1) := by decide +kernel
theorem dX4_isSo_14 : decode cX4_isSo 14 = .ok (.invokestatic 37, 3) := by decide +kernel
theorem dX4_isSo_17 : decode cX4_isSo 17 = .ok (.iaload, 1) := by decide +kernel
theorem dX4_isSo_18 : decode cX4_isSo 18 = .ok (.iload_n 2, 1) := by decide +kernel
theorem dX4_isSo_19 : decode cX4_isSo 19 = .ok (.if_icmp .ne 7, 3) := by decide +kernel
theorem dX4_isSo_22 : decode cX4_isSo 22 = .ok (.iconst 1, 1) := by decide +kernel
theorem dX4_isSo_23 : decode cX4_isSo 23 = .ok (.goto 4, 3) := by decide +kernel
theorem dX4_isSo_26 : decode cX4_isSo 26 = .ok (.iconst 0, 1) := by decide +kernel
theorem dX4_isSo_27 : decode cX4_isSo 27 = .ok (.ireturn, 1) := by decide +kernel
theorem dX4_isFrozen_0 : decode cX4_isFrozen 0 = .ok (.aload_n 0, 1) := by decide +kernel
theorem dX4_isFrozen_1 : decode cX4_isFrozen 1 = .ok (.iconst 0, 1) := by decide +kernel
theorem dX4_isFrozen_2 : decode cX4_isFrozen 2 = .ok (.putfield 26, 3) := by decide +kernel
theorem dX4_isFrozen_5 : decode cX4_isFrozen 5 = .ok (.aload_n 0, 1) := by decide +kernel
theorem dX4_isFrozen_6 : decode cX4_isFrozen 6 = .ok (.iload_n 1, 1) := by decide +kernel
theorem dX4_isFrozen_7 : decode cX4_isFrozen 7 = .ok (.invokevirtual 96, 3) := by decide +kernel
theorem dX4_isFrozen_10 : decode cX4_isFrozen 10 = .ok (.ifCond .eq 12, 3) := by decide +kernel
theorem dX4_isFrozen_13 : decode cX4_isFrozen 13 = .ok (.aload_n 0, 1) := by decide +kernel
theorem dX4_isFrozen_14 : decode cX4_isFrozen 14 = .ok (.iload_n 1, 1) := by decide +kernel
theorem dX4_isFrozen_15 : decode cX4_isFrozen 15 = .ok (.iconst 1, 1) := by decide +kernel
theorem dX4_isFrozen_16 : decode cX4_isFrozen 16 = .ok (.invokevirtual 120, 3) := by decide +kernel
theorem dX4_isFrozen_19 : decode cX4_isFrozen 19 = .ok (.goto 8, 3) := by decide +kernel
theorem dX4_isFrozen_22 : decode cX4_isFrozen 22 = .ok (.aload_n 0, 1) := by decide +kernel
theorem dX4_isFrozen_23 : decode cX4_isFrozen 23 = .ok (.iconst 1, 1) := by decide +kernel
theorem dX4_isFrozen_24 : decode cX4_isFrozen 24 = .ok (.invokevirtual 124, 3) := by decide +kernel
theorem dX4_isFrozen_27 : decode cX4_isFrozen 27 = .ok (.ireturn, 1) := by decide +kernel
theorem dX4_isThawed_0 : decode cX4_isThawed 0 = .ok (.aload_n 0, 1) := by decide +kernel
theorem dX4_isThawed_1 : decode cX4_isThawed 1 = .ok (.iconst 0, 1) := by decide +kernel
theorem dX4_isThawed_2 : decode cX4_isThawed 2 = .ok (.putfield 26, 3) := by decide +kernel
theorem dX4_isThawed_5 : decode cX4_isThawed 5 = .ok (.aload_n 0, 1) := by decide +kernel
theorem dX4_isThawed_6 : decode cX4_isThawed 6 = .ok (.iload_n 1, 1) := by decide +kernel
theorem dX4_isThawed_7 : decode cX4_isThawed 7 = .ok (.invokevirtual 96, 3) := by decide +kernel
theorem dX4_isThawed_10 : decode cX4_isThawed 10 = .ok (.ifCond .eq 12, 3) := by decide +kernel
theorem dX4_isThawed_13 : decode cX4_isThawed 13 = .ok (.aload_n 0, 1) := by decide +kernel
theorem dX4_isThawed_14 : decode cX4_isThawed 14 = .ok (.iload_n 1, 1) := by decide +kernel
theorem dX4_isThawed_15 : decode cX4_isThawed 15 = .ok (.iconst 2, 1) := by decide +kernel
theorem dX4_isThawed_16 : decode cX4_isThawed 16 = .ok (.invokevirtual 120, 3) := by decide +kernel
theorem dX4_isThawed_19 : decode cX4_isThawed 19 = .ok (.goto 8, 3) := by decide +kernel
theorem dX4_isThawed_22 : decode cX4_isThawed 22 = .ok (.aload_n 0, 1) := by decide +kernel
theorem dX4_isThawed_23 : decode cX4_isThawed 23 = .ok (.iconst 1, 1) := by decide +kernel
theorem dX4_isThawed_24 : decode cX4_isThawed 24 = .ok (.invokevirtual 124, 3) := by decide +kernel
theorem dX4_isThawed_27 : decode cX4_isThawed 27 = .ok (.ireturn, 1) := by decide +kernel
theorem dX4_isKept_0 : decode cX4_isKept 0 = .ok (.aload_n 0, 1) := by decide +kernel
theorem dX4_isKept_1 : decode cX4_isKept 1 = .ok (.iload_n 1, 1) := by decide +kernel
theorem dX4_isKept_2 : decode cX4_isKept 2 = .ok (.iconst 4, 1) := by decide +kernel
theorem dX4_isKept_3 : decode cX4_isKept 3 = .ok (.invokevirtual 117, 3) := by decide +kernel
theorem dX4_isKept_6 : decode cX4_isKept 6 = .ok (.iconst 1, 1) := by decide +kernel
theorem dX4_isKept_7 : decode cX4_isKept 7 = .ok (.if_icmp .ne 7, 3) := by decide +kernel
theorem dX4_isKept_10 : decode cX4_isKept 10 = .ok (.iconst 1, 1) := by decide +kernel
theorem dX4_isKept_11 : decode cX4_isKept 11 = .ok (.goto 4, 3) := by decide +kernel
theorem dX4_isKept_14 : decode cX4_isKept 14 = .ok (.iconst 0, 1) := by decide +kernel
theorem dX4_isKept_15 : decode cX4_isKept 15 = .ok (.ireturn, 1) := by decide +kernel
theorem dX4_isExpired_0 : decode cX4_isExpired 0 = .ok (.aload_n 0, 1) := by decide +kernel
theorem dX4_isExpired_1 : decode cX4_isExpired 1 = .ok (.iload_n 1, 1) := by decide +kernel
theorem dX4_isExpired_2 : decode cX4_isExpired 2 = .ok (.iconst 4, 1) := by decide +kernel
theorem dX4_isExpired_3 : decode cX4_isExpired 3 = .ok (.invokevirtual 117, 3) := by decide +kernel
theorem dX4_isExpired_6 : decode cX4_isExpired 6 = .ok (.iconst 2, 1) := by decide +kernel
theorem dX4_isExpired_7 : decode cX4_isExpired 7 = .ok (.if_icmp .ne 7, 3) := by decide +kernel
theorem dX4_isExpired_10 : decode cX4_isExpired 10 = .ok (.iconst 1, 1) := by decide +kernel
theorem dX4_isExpired_11 : decode cX4_isExpired 11 = .ok (.goto 4, 3) := by decide +kernel
theorem dX4_isExpired_14 : decode cX4_isExpired 14 = .ok (.iconst 0, 1) := by decide +kernel
theorem dX4_isExpired_15 : decode cX4_isExpired 15 = .ok (.ireturn, 1) := by decide +kernel
theorem dX4_owes_0 : decode cX4_owes 0 = .ok (.iconst 0, 1) := by decide +kernel
theorem dX4_owes_1 : decode cX4_owes 1 = .ok (.istore_n 2, 1) := by decide +kernel
theorem dX4_owes_2 : decode cX4_owes 2 = .ok (.iconst 0, 1) := by decide +kernel
theorem dX4_owes_3 : decode cX4_owes 3 = .ok (.istore_n 3, 1) := by decide +kernel
theorem dX4_owes_4 : decode cX4_owes 4 = .ok (.iload_n 3, 1) := by decide +kernel
theorem dX4_owes_5 : decode cX4_owes 5 = .ok (.aload_n 0, 1) := by decide +kernel
theorem dX4_owes_6 : decode cX4_owes 6 = .ok (.getfield 34, 3) := by decide +kernel
theorem dX4_owes_9 : decode cX4_owes 9 = .ok (.if_icmp .ge 35, 3) := by decide +kernel
theorem dX4_owes_12 : decode cX4_owes 12 = .ok (.iload_n 2, 1) := by decide +kernel
theorem dX4_owes_13 : decode cX4_owes 13 = .ok (.aload_n 0, 1) := by decide +kernel
theorem dX4_owes_14 : decode cX4_owes 14 = .ok (.getfield 9, 3) := by decide +kernel
theorem dX4_owes_17 : decode cX4_owes 17 = .ok (.iload_n 3, 1) := by decide +kernel
theorem dX4_owes_18 : decode cX4_owes 18 = .ok (.iaload, 1) := by decide +kernel
theorem dX4_owes_19 : decode cX4_owes 19 = .ok (.iload_n 1, 1) := by decide +kernel
theorem dX4_owes_20 : decode cX4_owes 20 = .ok (.if_icmp .ne 15, 3) := by decide +kernel
theorem dX4_owes_23 : decode cX4_owes 23 = .ok (.aload_n 0, 1) := by decide +kernel
theorem dX4_owes_24 : decode cX4_owes 24 = .ok (.iload_n 3, 1) := by decide +kernel
theorem dX4_owes_25 : decode cX4_owes 25 = .ok (.invokevirtual 69, 3) := by decide +kernel
theorem dX4_owes_28 : decode cX4_owes 28 = .ok (.ifCond .eq 7, 3) := by decide +kernel
theorem dX4_owes_31 : decode cX4_owes 31 = .ok (.iconst 1, 1) := by decide +kernel
theorem dX4_owes_32 : decode cX4_owes 32 = .ok (.goto 4, 3) := by decide +kernel
theorem dX4_owes_35 : decode cX4_owes 35 = .ok (.iconst 0, 1) := by decide +kernel
theorem dX4_owes_36 : decode cX4_owes 36 = .ok (.iadd, 1) := by decide +kernel
theorem dX4_owes_37 : decode cX4_owes 37 = .ok (.istore_n 2, 1) := by decide +kernel
theorem dX4_owes_38 : decode cX4_owes 38 = .ok (.iinc 3 1, 3) := by decide +kernel
theorem dX4_owes_41 : decode cX4_owes 41 = .ok (.goto (-37), 3) := by decide +kernel
theorem dX4_owes_44 : decode cX4_owes 44 = .ok (.iload_n 2, 1) := by decide +kernel
theorem dX4_owes_45 : decode cX4_owes 45 = .ok (.ireturn, 1) := by decide +kernel
theorem dX4_owedBy_0 : decode cX4_owedBy 0 = .ok (.aload_n 0, 1) := by decide +kernel
theorem dX4_owedBy_1 : decode cX4_owedBy 1 = .ok (.iconst 0, 1) := by decide +kernel
theorem dX4_owedBy_2 : decode cX4_owedBy 2 = .ok (.putfield 26, 3) := by decide +kernel
theorem dX4_owedBy_5 : decode cX4_owedBy 5 = .ok (.iload_n 1, 1) := by decide +kernel
theorem dX4_owedBy_6 : decode cX4_owedBy 6 = .ok (.invokestatic 83, 3) := by decide +kernel
theorem dX4_owedBy_9 : decode cX4_owedBy 9 = .ok (.ifCond .eq 11, 3) := by decide +kernel
theorem dX4_owedBy_12 : decode cX4_owedBy 12 = .ok (.aload_n 0, 1) := by decide +kernel
theorem dX4_owedBy_13 : decode cX4_owedBy 13 = .ok (.iload_n 1, 1) := by decide +kernel
theorem dX4_owedBy_14 : decode cX4_owedBy 14 = .ok (.invokevirtual 127, 3) := by decide +kernel
theorem dX4_owedBy_17 : decode cX4_owedBy 17 = .ok (.goto 8, 3) := by decide +kernel
theorem dX4_owedBy_20 : decode cX4_owedBy 20 = .ok (.aload_n 0, 1) := by decide +kernel
theorem dX4_owedBy_21 : decode cX4_owedBy 21 = .ok (.iconst 1, 1) := by decide +kernel
theorem dX4_owedBy_22 : decode cX4_owedBy 22 = .ok (.invokevirtual 89, 3) := by decide +kernel
theorem dX4_owedBy_25 : decode cX4_owedBy 25 = .ok (.ireturn, 1) := by decide +kernel
theorem dX4_honour_0 : decode cX4_honour 0 = .ok (.iconst 0, 1) := by decide +kernel
theorem dX4_honour_1 : decode cX4_honour 1 = .ok (.istore_n 2, 1) := by decide +kernel
theorem dX4_honour_2 : decode cX4_honour 2 = .ok (.iconst 0, 1) := by decide +kernel
theorem dX4_honour_3 : decode cX4_honour 3 = .ok (.istore_n 3, 1) := by decide +kernel
theorem dX4_honour_4 : decode cX4_honour 4 = .ok (.iload_n 3, 1) := by decide +kernel
theorem dX4_honour_5 : decode cX4_honour 5 = .ok (.aload_n 0, 1) := by decide +kernel
theorem dX4_honour_6 : decode cX4_honour 6 = .ok (.getfield 34, 3) := by decide +kernel
theorem dX4_honour_9 : decode cX4_honour 9 = .ok (.if_icmp .ge 58, 3) := by decide +kernel
theorem dX4_honour_12 : decode cX4_honour 12 = .ok (.aload_n 0, 1) := by decide +kernel
theorem dX4_honour_13 : decode cX4_honour 13 = .ok (.getfield 9, 3) := by decide +kernel
theorem dX4_honour_16 : decode cX4_honour 16 = .ok (.iload_n 3, 1) := by decide +kernel
theorem dX4_honour_17 : decode cX4_honour 17 = .ok (.iaload, 1) := by decide +kernel
theorem dX4_honour_18 : decode cX4_honour 18 = .ok (.iload_n 1, 1) := by decide +kernel
theorem dX4_honour_19 : decode cX4_honour 19 = .ok (.if_icmp .eq 6, 3) := by decide +kernel
theorem dX4_honour_22 : decode cX4_honour 22 = .ok (.goto 39, 3) := by decide +kernel
theorem dX4_honour_25 : decode cX4_honour 25 = .ok (.aload_n 0, 1) := by decide +kernel
theorem dX4_honour_26 : decode cX4_honour 26 = .ok (.getfield 16, 3) := by decide +kernel
theorem dX4_honour_29 : decode cX4_honour 29 = .ok (.iload_n 3, 1) := by decide +kernel
theorem dX4_honour_30 : decode cX4_honour 30 = .ok (.iconst 4, 1) := by decide +kernel
theorem dX4_honour_31 : decode cX4_honour 31 = .ok (.invokestatic 37, 3) := by decide +kernel
theorem dX4_honour_34 : decode cX4_honour 34 = .ok (.iaload, 1) := by decide +kernel
theorem dX4_honour_35 : decode cX4_honour 35 = .ok (.istore 4, 2) := by decide +kernel
theorem dX4_honour_37 : decode cX4_honour 37 = .ok (.iload_n 2, 1) := by decide +kernel
theorem dX4_honour_38 : decode cX4_honour 38 = .ok (.iload 4, 2) := by decide +kernel
theorem dX4_honour_40 : decode cX4_honour 40 = .ok (.iconst 1, 1) := by decide +kernel
theorem dX4_honour_41 : decode cX4_honour 41 = .ok (.if_icmp .ne 7, 3) := by decide +kernel
theorem dX4_honour_44 : decode cX4_honour 44 = .ok (.iconst 1, 1) := by decide +kernel
theorem dX4_honour_45 : decode cX4_honour 45 = .ok (.goto 14, 3) := by decide +kernel
theorem dX4_honour_48 : decode cX4_honour 48 = .ok (.iload 4, 2) := by decide +kernel
theorem dX4_honour_50 : decode cX4_honour 50 = .ok (.iconst 2, 1) := by decide +kernel
theorem dX4_honour_51 : decode cX4_honour 51 = .ok (.if_icmp .ne 7, 3) := by decide +kernel
theorem dX4_honour_54 : decode cX4_honour 54 = .ok (.iconst (-1), 1) := by decide +kernel
theorem dX4_honour_55 : decode cX4_honour 55 = .ok (.goto 4, 3) := by decide +kernel
theorem dX4_honour_58 : decode cX4_honour 58 = .ok (.iconst 0, 1) := by decide +kernel
theorem dX4_honour_59 : decode cX4_honour 59 = .ok (.iadd, 1) := by decide +kernel
theorem dX4_honour_60 : decode cX4_honour 60 = .ok (.istore_n 2, 1) := by decide +kernel
theorem dX4_honour_61 : decode cX4_honour 61 = .ok (.iinc 3 1, 3) := by decide +kernel
theorem dX4_honour_64 : decode cX4_honour 64 = .ok (.goto (-60), 3) := by decide +kernel
theorem dX4_honour_67 : decode cX4_honour 67 = .ok (.iload_n 2, 1) := by decide +kernel
theorem dX4_honour_68 : decode cX4_honour 68 = .ok (.ireturn, 1) := by decide +kernel
theorem dX4_honourOf_0 : decode cX4_honourOf 0 = .ok (.aload_n 0, 1) := by decide +kernel
theorem dX4_honourOf_1 : decode cX4_honourOf 1 = .ok (.iconst 0, 1) := by decide +kernel
theorem dX4_honourOf_2 : decode cX4_honourOf 2 = .ok (.putfield 26, 3) := by decide +kernel
theorem dX4_honourOf_5 : decode cX4_honourOf 5 = .ok (.iload_n 1, 1) := by decide +kernel
theorem dX4_honourOf_6 : decode cX4_honourOf 6 = .ok (.invokestatic 83, 3) := by decide +kernel
theorem dX4_honourOf_9 : decode cX4_honourOf 9 = .ok (.ifCond .eq 11, 3) := by decide +kernel
theorem dX4_honourOf_12 : decode cX4_honourOf 12 = .ok (.aload_n 0, 1) := by decide +kernel
theorem dX4_honourOf_13 : decode cX4_honourOf 13 = .ok (.iload_n 1, 1) := by decide +kernel
theorem dX4_honourOf_14 : decode cX4_honourOf 14 = .ok (.invokevirtual 130, 3) := by decide +kernel
theorem dX4_honourOf_17 : decode cX4_honourOf 17 = .ok (.goto 8, 3) := by decide +kernel
theorem dX4_honourOf_20 : decode cX4_honourOf 20 = .ok (.aload_n 0, 1) := by decide +kernel
theorem dX4_honourOf_21 : decode cX4_honourOf 21 = .ok (.iconst 1, 1) := by decide +kernel
theorem dX4_honourOf_22 : decode cX4_honourOf 22 = .ok (.invokevirtual 89, 3) := by decide +kernel
theorem dX4_honourOf_25 : decode cX4_honourOf 25 = .ok (.ireturn, 1) := by decide +kernel
theorem dX4_most_0 : decode cX4_most 0 = .ok (.iconst 0, 1) := by decide +kernel
theorem dX4_most_1 : decode cX4_most 1 = .ok (.istore_n 1, 1) := by decide +kernel
theorem dX4_most_2 : decode cX4_most 2 = .ok (.iconst 1, 1) := by decide +kernel
theorem dX4_most_3 : decode cX4_most 3 = .ok (.istore_n 2, 1) := by decide +kernel
theorem dX4_most_4 : decode cX4_most 4 = .ok (.iload_n 2, 1) := by decide +kernel
theorem dX4_most_5 : decode cX4_most 5 = .ok (.bipush 6, 2) := by decide +kernel
theorem dX4_most_7 : decode cX4_most 7 = .ok (.if_icmp .ge 24, 3) := by decide +kernel
theorem dX4_most_10 : decode cX4_most 10 = .ok (.aload_n 0, 1) := by decide +kernel
theorem dX4_most_11 : decode cX4_most 11 = .ok (.iload_n 2, 1) := by decide +kernel
theorem dX4_most_12 : decode cX4_most 12 = .ok (.invokevirtual 130, 3) := by decide +kernel
theorem dX4_most_15 : decode cX4_most 15 = .ok (.aload_n 0, 1) := by decide +kernel
theorem dX4_most_16 : decode cX4_most 16 = .ok (.iload_n 1, 1) := by decide +kernel
theorem dX4_most_17 : decode cX4_most 17 = .ok (.invokevirtual 130, 3) := by decide +kernel
theorem dX4_most_20 : decode cX4_most 20 = .ok (.if_icmp .le 5, 3) := by decide +kernel
theorem dX4_most_23 : decode cX4_most 23 = .ok (.iload_n 2, 1) := by decide +kernel
theorem dX4_most_24 : decode cX4_most 24 = .ok (.istore_n 1, 1) := by decide +kernel
theorem dX4_most_25 : decode cX4_most 25 = .ok (.iinc 2 1, 3) := by decide +kernel
theorem dX4_most_28 : decode cX4_most 28 = .ok (.goto (-24), 3) := by decide +kernel
theorem dX4_most_31 : decode cX4_most 31 = .ok (.iload_n 1, 1) := by decide +kernel
theorem dX4_most_32 : decode cX4_most 32 = .ok (.ireturn, 1) := by decide +kernel
theorem dX4_mostHonourable_0 : decode cX4_mostHonourable 0 = .ok (.aload_n 0, 1) := by decide +kernel
theorem dX4_mostHonourable_1 : decode cX4_mostHonourable 1 = .ok (.aload_n 0, 1) := by decide +kernel
theorem dX4_mostHonourable_2 : decode cX4_mostHonourable 2 = .ok (.invokevirtual 133, 3) := by decide +kernel
theorem dX4_mostHonourable_5 : decode cX4_mostHonourable 5 = .ok (.invokevirtual 105, 3) := by decide +kernel
theorem dX4_mostHonourable_8 : decode cX4_mostHonourable 8 = .ok (.ireturn, 1) := by decide +kernel
theorem dX4_until_0 : decode cX4_until 0 = .ok (.aload_n 0, 1) := by decide +kernel
theorem dX4_until_1 : decode cX4_until 1 = .ok (.invokevirtual 136, 3) := by decide +kernel
theorem dX4_until_4 : decode cX4_until 4 = .ok (.iconst (-1), 1) := by decide +kernel
theorem dX4_until_5 : decode cX4_until 5 = .ok (.istore_n 3, 1) := by decide +kernel
theorem dX4_until_6 : decode cX4_until 6 = .ok (.iconst 0, 1) := by decide +kernel
theorem dX4_until_7 : decode cX4_until 7 = .ok (.istore 4, 2) := by decide +kernel
theorem dX4_until_9 : decode cX4_until 9 = .ok (.iload 4, 2) := by decide +kernel
theorem dX4_until_11 : decode cX4_until 11 = .ok (.sipush 200, 3) := by decide +kernel
theorem dX4_until_14 : decode cX4_until 14 = .ok (.if_icmp .gt 63, 3) := by decide +kernel
theorem dX4_until_17 : decode cX4_until 17 = .ok (.iload_n 3, 1) := by decide +kernel
theorem dX4_until_18 : decode cX4_until 18 = .ok (.iconst (-1), 1) := by decide +kernel
theorem dX4_until_19 : decode cX4_until 19 = .ok (.if_icmp .ne 58, 3) := by decide +kernel
theorem dX4_until_22 : decode cX4_until 22 = .ok (.iload_n 2, 1) := by decide +kernel
theorem dX4_until_23 : decode cX4_until 23 = .ok (.bipush 11, 2) := by decide +kernel
theorem dX4_until_25 : decode cX4_until 25 = .ok (.if_icmp .ne 25, 3) := by decide +kernel
theorem dX4_until_28 : decode cX4_until 28 = .ok (.aload_n 0, 1) := by decide +kernel
theorem dX4_until_29 : decode cX4_until 29 = .ok (.getfield 16, 3) := by decide +kernel
theorem dX4_until_32 : decode cX4_until 32 = .ok (.iload_n 1, 1) := by decide +kernel
theorem dX4_until_33 : decode cX4_until 33 = .ok (.iconst 4, 1) := by decide +kernel
theorem dX4_until_34 : decode cX4_until 34 = .ok (.invokestatic 37, 3) := by decide +kernel
theorem dX4_until_37 : decode cX4_until 37 = .ok (.iaload, 1) := by decide +kernel
theorem dX4_until_38 : decode cX4_until 38 = .ok (.iconst 2, 1) := by decide +kernel
theorem dX4_until_39 : decode cX4_until 39 = .ok (.if_icmp .ne 7, 3) := by decide +kernel
theorem dX4_until_42 : decode cX4_until 42 = .ok (.iconst 1, 1) := by decide +kernel
theorem dX4_until_43 : decode cX4_until 43 = .ok (.goto 13, 3) := by decide +kernel
theorem dX4_until_46 : decode cX4_until 46 = .ok (.iconst 0, 1) := by decide +kernel
theorem dX4_until_47 : decode cX4_until 47 = .ok (.goto 9, 3) := by decide +kernel
theorem dX4_until_50 : decode cX4_until 50 = .ok (.aload_n 0, 1) := by decide +kernel
theorem dX4_until_51 : decode cX4_until 51 = .ok (.iload_n 1, 1) := by decide +kernel
theorem dX4_until_52 : decode cX4_until 52 = .ok (.iload_n 2, 1) := by decide +kernel
theorem dX4_until_53 : decode cX4_until 53 = .ok (.invokevirtual 120, 3) := by decide +kernel
theorem dX4_until_56 : decode cX4_until 56 = .ok (.istore 5, 2) := by decide +kernel
theorem dX4_until_58 : decode cX4_until 58 = .ok (.iload 5, 2) := by decide +kernel
theorem dX4_until_60 : decode cX4_until 60 = .ok (.ifCond .eq 6, 3) := by decide +kernel
theorem dX4_until_63 : decode cX4_until 63 = .ok (.iload 4, 2) := by decide +kernel
theorem dX4_until_65 : decode cX4_until 65 = .ok (.istore_n 3, 1) := by decide +kernel
theorem dX4_until_66 : decode cX4_until 66 = .ok (.aload_n 0, 1) := by decide +kernel
theorem dX4_until_67 : decode cX4_until 67 = .ok (.invokevirtual 79, 3) := by decide +kernel
theorem dX4_until_70 : decode cX4_until 70 = .ok (.pop, 1) := by decide +kernel
theorem dX4_until_71 : decode cX4_until 71 = .ok (.iinc 4 1, 3) := by decide +kernel
theorem dX4_until_74 : decode cX4_until 74 = .ok (.goto (-65), 3) := by decide +kernel
theorem dX4_until_77 : decode cX4_until 77 = .ok (.aload_n 0, 1) := by decide +kernel
theorem dX4_until_78 : decode cX4_until 78 = .ok (.invokevirtual 139, 3) := by decide +kernel
theorem dX4_until_81 : decode cX4_until 81 = .ok (.iload_n 3, 1) := by decide +kernel
theorem dX4_until_82 : decode cX4_until 82 = .ok (.ireturn, 1) := by decide +kernel
theorem dX4_hoursUntilFrozen_0 : decode cX4_hoursUntilFrozen 0 = .ok (.aload_n 0, 1) := by decide +kernel
theorem dX4_hoursUntilFrozen_1 : decode cX4_hoursUntilFrozen 1 = .ok (.iconst 0, 1) := by decide +kernel
theorem dX4_hoursUntilFrozen_2 : decode cX4_hoursUntilFrozen 2 = .ok (.putfield 26, 3) := by decide +kernel
theorem dX4_hoursUntilFrozen_5 : decode cX4_hoursUntilFrozen 5 = .ok (.aload_n 0, 1) := by decide +kernel
theorem dX4_hoursUntilFrozen_6 : decode cX4_hoursUntilFrozen 6 = .ok (.iload_n 1, 1) := by decide +kernel
theorem dX4_hoursUntilFrozen_7 : decode cX4_hoursUntilFrozen 7 = .ok (.invokevirtual 96, 3) := by decide +kernel
theorem dX4_hoursUntilFrozen_10 : decode cX4_hoursUntilFrozen 10 = .ok (.ifCond .eq 12, 3) := by decide +kernel
theorem dX4_hoursUntilFrozen_13 : decode cX4_hoursUntilFrozen 13 = .ok (.aload_n 0, 1) := by decide +kernel
theorem dX4_hoursUntilFrozen_14 : decode cX4_hoursUntilFrozen 14 = .ok (.iload_n 1, 1) := by decide +kernel
theorem dX4_hoursUntilFrozen_15 : decode cX4_hoursUntilFrozen 15 = .ok (.iconst 1, 1) := by decide +kernel
theorem dX4_hoursUntilFrozen_16 : decode cX4_hoursUntilFrozen 16 = .ok (.invokevirtual 142, 3) := by decide +kernel
theorem dX4_hoursUntilFrozen_19 : decode cX4_hoursUntilFrozen 19 = .ok (.goto 8, 3) := by decide +kernel
theorem dX4_hoursUntilFrozen_22 : decode cX4_hoursUntilFrozen 22 = .ok (.aload_n 0, 1) := by decide +kernel
theorem dX4_hoursUntilFrozen_23 : decode cX4_hoursUntilFrozen 23 = .ok (.iconst 1, 1) := by decide +kernel
theorem dX4_hoursUntilFrozen_24 : decode cX4_hoursUntilFrozen 24 = .ok (.invokevirtual 89, 3) := by decide +kernel
theorem dX4_hoursUntilFrozen_27 : decode cX4_hoursUntilFrozen 27 = .ok (.ireturn, 1) := by decide +kernel
theorem dX4_hoursUntilThawed_0 : decode cX4_hoursUntilThawed 0 = .ok (.aload_n 0, 1) := by decide +kernel
theorem dX4_hoursUntilThawed_1 : decode cX4_hoursUntilThawed 1 = .ok (.iconst 0, 1) := by decide +kernel
theorem dX4_hoursUntilThawed_2 : decode cX4_hoursUntilThawed 2 = .ok (.putfield 26, 3) := by decide +kernel
theorem dX4_hoursUntilThawed_5 : decode cX4_hoursUntilThawed 5 = .ok (.aload_n 0, 1) := by decide +kernel
theorem dX4_hoursUntilThawed_6 : decode cX4_hoursUntilThawed 6 = .ok (.iload_n 1, 1) := by decide +kernel
theorem dX4_hoursUntilThawed_7 : decode cX4_hoursUntilThawed 7 = .ok (.invokevirtual 96, 3) := by decide +kernel
theorem dX4_hoursUntilThawed_10 : decode cX4_hoursUntilThawed 10 = .ok (.ifCond .eq 12, 3) := by decide +kernel
theorem dX4_hoursUntilThawed_13 : decode cX4_hoursUntilThawed 13 = .ok (.aload_n 0, 1) := by decide +kernel
theorem dX4_hoursUntilThawed_14 : decode cX4_hoursUntilThawed 14 = .ok (.iload_n 1, 1) := by decide +kernel
theorem dX4_hoursUntilThawed_15 : decode cX4_hoursUntilThawed 15 = .ok (.iconst 2, 1) := by decide +kernel
theorem dX4_hoursUntilThawed_16 : decode cX4_hoursUntilThawed 16 = .ok (.invokevirtual 142, 3) := by decide +kernel
theorem dX4_hoursUntilThawed_19 : decode cX4_hoursUntilThawed 19 = .ok (.goto 8, 3) := by decide +kernel
theorem dX4_hoursUntilThawed_22 : decode cX4_hoursUntilThawed 22 = .ok (.aload_n 0, 1) := by decide +kernel
theorem dX4_hoursUntilThawed_23 : decode cX4_hoursUntilThawed 23 = .ok (.iconst 1, 1) := by decide +kernel
theorem dX4_hoursUntilThawed_24 : decode cX4_hoursUntilThawed 24 = .ok (.invokevirtual 89, 3) := by decide +kernel
theorem dX4_hoursUntilThawed_27 : decode cX4_hoursUntilThawed 27 = .ok (.ireturn, 1) := by decide +kernel
theorem dX4_hoursUntilExpired_0 : decode cX4_hoursUntilExpired 0 = .ok (.aload_n 0, 1) := by decide +kernel
theorem dX4_hoursUntilExpired_1 : decode cX4_hoursUntilExpired 1 = .ok (.iconst 0, 1) := by decide +kernel
theorem dX4_hoursUntilExpired_2 : decode cX4_hoursUntilExpired 2 = .ok (.putfield 26, 3) := by decide +kernel
theorem dX4_hoursUntilExpired_5 : decode cX4_hoursUntilExpired 5 = .ok (.aload_n 0, 1) := by decide +kernel
theorem dX4_hoursUntilExpired_6 : decode cX4_hoursUntilExpired 6 = .ok (.iload_n 1, 1) := by decide +kernel
theorem dX4_hoursUntilExpired_7 : decode cX4_hoursUntilExpired 7 = .ok (.invokevirtual 96, 3) := by decide +kernel
theorem dX4_hoursUntilExpired_10 : decode cX4_hoursUntilExpired 10 = .ok (.ifCond .eq 13, 3) := by decide +kernel
theorem dX4_hoursUntilExpired_13 : decode cX4_hoursUntilExpired 13 = .ok (.aload_n 0, 1) := by decide +kernel
theorem dX4_hoursUntilExpired_14 : decode cX4_hoursUntilExpired 14 = .ok (.iload_n 1, 1) := by decide +kernel
theorem dX4_hoursUntilExpired_15 : decode cX4_hoursUntilExpired 15 = .ok (.bipush 11, 2) := by decide +kernel
theorem dX4_hoursUntilExpired_17 : decode cX4_hoursUntilExpired 17 = .ok (.invokevirtual 142, 3) := by decide +kernel
theorem dX4_hoursUntilExpired_20 : decode cX4_hoursUntilExpired 20 = .ok (.goto 8, 3) := by decide +kernel
theorem dX4_hoursUntilExpired_23 : decode cX4_hoursUntilExpired 23 = .ok (.aload_n 0, 1) := by decide +kernel
theorem dX4_hoursUntilExpired_24 : decode cX4_hoursUntilExpired 24 = .ok (.iconst 1, 1) := by decide +kernel
theorem dX4_hoursUntilExpired_25 : decode cX4_hoursUntilExpired 25 = .ok (.invokevirtual 89, 3) := by decide +kernel
theorem dX4_hoursUntilExpired_28 : decode cX4_hoursUntilExpired 28 = .ok (.ireturn, 1) := by decide +kernel
theorem dX4_leftIn_0 : decode cX4_leftIn 0 = .ok (.aload_n 0, 1) := by decide +kernel
theorem dX4_leftIn_1 : decode cX4_leftIn 1 = .ok (.iconst 0, 1) := by decide +kernel
theorem dX4_leftIn_2 : decode cX4_leftIn 2 = .ok (.putfield 26, 3) := by decide +kernel
theorem dX4_leftIn_5 : decode cX4_leftIn 5 = .ok (.iload_n 1, 1) := by decide +kernel
theorem dX4_leftIn_6 : decode cX4_leftIn 6 = .ok (.iconst 1, 1) := by decide +kernel
theorem dX4_leftIn_7 : decode cX4_leftIn 7 = .ok (.bipush 100, 2) := by decide +kernel
theorem dX4_leftIn_9 : decode cX4_leftIn 9 = .ok (.invokestatic 30, 3) := by decide +kernel
theorem dX4_leftIn_12 : decode cX4_leftIn 12 = .ok (.ifCond .ne 9, 3) := by decide +kernel
theorem dX4_leftIn_15 : decode cX4_leftIn 15 = .ok (.aload_n 0, 1) := by decide +kernel
theorem dX4_leftIn_16 : decode cX4_leftIn 16 = .ok (.iconst 1, 1) := by decide +kernel
theorem dX4_leftIn_17 : decode cX4_leftIn 17 = .ok (.invokevirtual 89, 3) := by decide +kernel
theorem dX4_leftIn_20 : decode cX4_leftIn 20 = .ok (.ireturn, 1) := by decide +kernel
theorem dX4_leftIn_21 : decode cX4_leftIn 21 = .ok (.aload_n 0, 1) := by decide +kernel
theorem dX4_leftIn_22 : decode cX4_leftIn 22 = .ok (.invokevirtual 136, 3) := by decide +kernel
theorem dX4_leftIn_25 : decode cX4_leftIn 25 = .ok (.aload_n 0, 1) := by decide +kernel
theorem dX4_leftIn_26 : decode cX4_leftIn 26 = .ok (.iload_n 1, 1) := by decide +kernel
theorem dX4_leftIn_27 : decode cX4_leftIn 27 = .ok (.invokevirtual 102, 3) := by decide +kernel
theorem dX4_leftIn_30 : decode cX4_leftIn 30 = .ok (.pop, 1) := by decide +kernel
theorem dX4_leftIn_31 : decode cX4_leftIn 31 = .ok (.iconst 0, 1) := by decide +kernel
theorem dX4_leftIn_32 : decode cX4_leftIn 32 = .ok (.istore_n 2, 1) := by decide +kernel
theorem dX4_leftIn_33 : decode cX4_leftIn 33 = .ok (.iconst 0, 1) := by decide +kernel
theorem dX4_leftIn_34 : decode cX4_leftIn 34 = .ok (.istore_n 3, 1) := by decide +kernel
theorem dX4_leftIn_35 : decode cX4_leftIn 35 = .ok (.iload_n 3, 1) := by decide +kernel
theorem dX4_leftIn_36 : decode cX4_leftIn 36 = .ok (.aload_n 0, 1) := by decide +kernel
theorem dX4_leftIn_37 : decode cX4_leftIn 37 = .ok (.getfield 34, 3) := by decide +kernel
theorem dX4_leftIn_40 : decode cX4_leftIn 40 = .ok (.if_icmp .ge 25, 3) := by decide +kernel
theorem dX4_leftIn_43 : decode cX4_leftIn 43 = .ok (.iload_n 2, 1) := by decide +kernel
theorem dX4_leftIn_44 : decode cX4_leftIn 44 = .ok (.aload_n 0, 1) := by decide +kernel
theorem dX4_leftIn_45 : decode cX4_leftIn 45 = .ok (.iload_n 3, 1) := by decide +kernel
theorem dX4_leftIn_46 : decode cX4_leftIn 46 = .ok (.invokevirtual 69, 3) := by decide +kernel
theorem dX4_leftIn_49 : decode cX4_leftIn 49 = .ok (.ifCond .eq 7, 3) := by decide +kernel
theorem dX4_leftIn_52 : decode cX4_leftIn 52 = .ok (.iconst 1, 1) := by decide +kernel
theorem dX4_leftIn_53 : decode cX4_leftIn 53 = .ok (.goto 4, 3) := by decide +kernel
theorem dX4_leftIn_56 : decode cX4_leftIn 56 = .ok (.iconst 0, 1) := by decide +kernel
theorem dX4_leftIn_57 : decode cX4_leftIn 57 = .ok (.iadd, 1) := by decide +kernel
theorem dX4_leftIn_58 : decode cX4_leftIn 58 = .ok (.istore_n 2, 1) := by decide +kernel
theorem dX4_leftIn_59 : decode cX4_leftIn 59 = .ok (.iinc 3 1, 3) := by decide +kernel
theorem dX4_leftIn_62 : decode cX4_leftIn 62 = .ok (.goto (-27), 3) := by decide +kernel
theorem dX4_leftIn_65 : decode cX4_leftIn 65 = .ok (.aload_n 0, 1) := by decide +kernel
theorem dX4_leftIn_66 : decode cX4_leftIn 66 = .ok (.invokevirtual 139, 3) := by decide +kernel
theorem dX4_leftIn_69 : decode cX4_leftIn 69 = .ok (.iload_n 2, 1) := by decide +kernel
theorem dX4_leftIn_70 : decode cX4_leftIn 70 = .ok (.ireturn, 1) := by decide +kernel
theorem dX4_freezesOn_0 : decode cX4_freezesOn 0 = .ok (.aload_n 0, 1) := by decide +kernel
theorem dX4_freezesOn_1 : decode cX4_freezesOn 1 = .ok (.invokevirtual 136, 3) := by decide +kernel
theorem dX4_freezesOn_4 : decode cX4_freezesOn 4 = .ok (.aload_n 0, 1) := by decide +kernel
theorem dX4_freezesOn_5 : decode cX4_freezesOn 5 = .ok (.iconst 0, 1) := by decide +kernel
theorem dX4_freezesOn_6 : decode cX4_freezesOn 6 = .ok (.bipush 100, 2) := by decide +kernel
theorem dX4_freezesOn_8 : decode cX4_freezesOn 8 = .ok (.iload_n 1, 1) := by decide +kernel
theorem dX4_freezesOn_9 : decode cX4_freezesOn 9 = .ok (.invokevirtual 92, 3) := by decide +kernel
theorem dX4_freezesOn_12 : decode cX4_freezesOn 12 = .ok (.aload_n 0, 1) := by decide +kernel
theorem dX4_freezesOn_13 : decode cX4_freezesOn 13 = .ok (.getfield 34, 3) := by decide +kernel
theorem dX4_freezesOn_16 : decode cX4_freezesOn 16 = .ok (.iconst 1, 1) := by decide +kernel
theorem dX4_freezesOn_17 : decode cX4_freezesOn 17 = .ok (.isub, 1) := by decide +kernel
theorem dX4_freezesOn_18 : decode cX4_freezesOn 18 = .ok (.istore_n 2, 1) := by decide +kernel
theorem dX4_freezesOn_19 : decode cX4_freezesOn 19 = .ok (.iconst 0, 1) := by decide +kernel
theorem dX4_freezesOn_20 : decode cX4_freezesOn 20 = .ok (.istore_n 3, 1) := by decide +kernel
theorem dX4_freezesOn_21 : decode cX4_freezesOn 21 = .ok (.iload_n 3, 1) := by decide +kernel
theorem dX4_freezesOn_22 : decode cX4_freezesOn 22 = .ok (.sipush 200, 3) := by decide +kernel
theorem dX4_freezesOn_25 : decode cX4_freezesOn 25 = .ok (.if_icmp .gt 23, 3) := by decide +kernel
theorem dX4_freezesOn_28 : decode cX4_freezesOn 28 = .ok (.aload_n 0, 1) := by decide +kernel
theorem dX4_freezesOn_29 : decode cX4_freezesOn 29 = .ok (.iload_n 2, 1) := by decide +kernel
theorem dX4_freezesOn_30 : decode cX4_freezesOn 30 = .ok (.iconst 1, 1) := by decide +kernel
theorem dX4_freezesOn_31 : decode cX4_freezesOn 31 = .ok (.invokevirtual 120, 3) := by decide +kernel
theorem dX4_freezesOn_34 : decode cX4_freezesOn 34 = .ok (.ifCond .ne 14, 3) := by decide +kernel
theorem dX4_freezesOn_37 : decode cX4_freezesOn 37 = .ok (.aload_n 0, 1) := by decide +kernel
theorem dX4_freezesOn_38 : decode cX4_freezesOn 38 = .ok (.invokevirtual 79, 3) := by decide +kernel
theorem dX4_freezesOn_41 : decode cX4_freezesOn 41 = .ok (.pop, 1) := by decide +kernel
theorem dX4_freezesOn_42 : decode cX4_freezesOn 42 = .ok (.iinc 3 1, 3) := by decide +kernel
theorem dX4_freezesOn_45 : decode cX4_freezesOn 45 = .ok (.goto (-24), 3) := by decide +kernel
theorem dX4_freezesOn_48 : decode cX4_freezesOn 48 = .ok (.aload_n 0, 1) := by decide +kernel
theorem dX4_freezesOn_49 : decode cX4_freezesOn 49 = .ok (.dup, 1) := by decide +kernel
theorem dX4_freezesOn_50 : decode cX4_freezesOn 50 = .ok (.getfield 34, 3) := by decide +kernel
theorem dX4_freezesOn_53 : decode cX4_freezesOn 53 = .ok (.iconst 1, 1) := by decide +kernel
theorem dX4_freezesOn_54 : decode cX4_freezesOn 54 = .ok (.isub, 1) := by decide +kernel
theorem dX4_freezesOn_55 : decode cX4_freezesOn 55 = .ok (.putfield 34, 3) := by decide +kernel
theorem dX4_freezesOn_58 : decode cX4_freezesOn 58 = .ok (.aload_n 0, 1) := by decide +kernel
theorem dX4_freezesOn_59 : decode cX4_freezesOn 59 = .ok (.invokevirtual 139, 3) := by decide +kernel
theorem dX4_freezesOn_62 : decode cX4_freezesOn 62 = .ok (.iload_n 3, 1) := by decide +kernel
theorem dX4_freezesOn_63 : decode cX4_freezesOn 63 = .ok (.sipush 200, 3) := by decide +kernel
theorem dX4_freezesOn_66 : decode cX4_freezesOn 66 = .ok (.if_icmp .le 7, 3) := by decide +kernel
theorem dX4_freezesOn_69 : decode cX4_freezesOn 69 = .ok (.iconst (-1), 1) := by decide +kernel
theorem dX4_freezesOn_70 : decode cX4_freezesOn 70 = .ok (.goto 4, 3) := by decide +kernel
theorem dX4_freezesOn_73 : decode cX4_freezesOn 73 = .ok (.iload_n 3, 1) := by decide +kernel
theorem dX4_freezesOn_74 : decode cX4_freezesOn 74 = .ok (.ireturn, 1) := by decide +kernel
theorem dX4_best_0 : decode cX4_best 0 = .ok (.iconst (-1), 1) := by decide +kernel
theorem dX4_best_1 : decode cX4_best 1 = .ok (.istore_n 1, 1) := by decide +kernel
theorem dX4_best_2 : decode cX4_best 2 = .ok (.sipush 201, 3) := by decide +kernel
theorem dX4_best_5 : decode cX4_best 5 = .ok (.istore_n 2, 1) := by decide +kernel
theorem dX4_best_6 : decode cX4_best 6 = .ok (.iconst 0, 1) := by decide +kernel
theorem dX4_best_7 : decode cX4_best 7 = .ok (.istore_n 3, 1) := by decide +kernel
theorem dX4_best_8 : decode cX4_best 8 = .ok (.iload_n 3, 1) := by decide +kernel
theorem dX4_best_9 : decode cX4_best 9 = .ok (.iconst 5, 1) := by decide +kernel
theorem dX4_best_10 : decode cX4_best 10 = .ok (.if_icmp .ge 45, 3) := by decide +kernel
theorem dX4_best_13 : decode cX4_best 13 = .ok (.aload_n 0, 1) := by decide +kernel
theorem dX4_best_14 : decode cX4_best 14 = .ok (.getfield 34, 3) := by decide +kernel
theorem dX4_best_17 : decode cX4_best 17 = .ok (.bipush 20, 2) := by decide +kernel
theorem dX4_best_19 : decode cX4_best 19 = .ok (.if_icmp .ge 36, 3) := by decide +kernel
theorem dX4_best_22 : decode cX4_best 22 = .ok (.aload_n 0, 1) := by decide +kernel
theorem dX4_best_23 : decode cX4_best 23 = .ok (.iload_n 3, 1) := by decide +kernel
theorem dX4_best_24 : decode cX4_best 24 = .ok (.invokevirtual 145, 3) := by decide +kernel
theorem dX4_best_27 : decode cX4_best 27 = .ok (.istore 4, 2) := by decide +kernel
theorem dX4_best_29 : decode cX4_best 29 = .ok (.iload 4, 2) := by decide +kernel
theorem dX4_best_31 : decode cX4_best 31 = .ok (.iconst (-1), 1) := by decide +kernel
theorem dX4_best_32 : decode cX4_best 32 = .ok (.if_icmp .eq 17, 3) := by decide +kernel
theorem dX4_best_35 : decode cX4_best 35 = .ok (.iload 4, 2) := by decide +kernel
theorem dX4_best_37 : decode cX4_best 37 = .ok (.iload_n 2, 1) := by decide +kernel
theorem dX4_best_38 : decode cX4_best 38 = .ok (.if_icmp .lt 6, 3) := by decide +kernel
theorem dX4_best_41 : decode cX4_best 41 = .ok (.goto 8, 3) := by decide +kernel
theorem dX4_best_44 : decode cX4_best 44 = .ok (.iload_n 3, 1) := by decide +kernel
theorem dX4_best_45 : decode cX4_best 45 = .ok (.istore_n 1, 1) := by decide +kernel
theorem dX4_best_46 : decode cX4_best 46 = .ok (.iload 4, 2) := by decide +kernel
theorem dX4_best_48 : decode cX4_best 48 = .ok (.istore_n 2, 1) := by decide +kernel
theorem dX4_best_49 : decode cX4_best 49 = .ok (.iinc 3 1, 3) := by decide +kernel
theorem dX4_best_52 : decode cX4_best 52 = .ok (.goto (-44), 3) := by decide +kernel
theorem dX4_best_55 : decode cX4_best 55 = .ok (.iload_n 1, 1) := by decide +kernel
theorem dX4_best_56 : decode cX4_best 56 = .ok (.ireturn, 1) := by decide +kernel
theorem dX4_bestShelf_0 : decode cX4_bestShelf 0 = .ok (.aload_n 0, 1) := by decide +kernel
theorem dX4_bestShelf_1 : decode cX4_bestShelf 1 = .ok (.aload_n 0, 1) := by decide +kernel
theorem dX4_bestShelf_2 : decode cX4_bestShelf 2 = .ok (.invokevirtual 148, 3) := by decide +kernel
theorem dX4_bestShelf_5 : decode cX4_bestShelf 5 = .ok (.invokevirtual 105, 3) := by decide +kernel
theorem dX4_bestShelf_8 : decode cX4_bestShelf 8 = .ok (.ireturn, 1) := by decide +kernel
theorem dX4_cold_0 : decode cX4_cold 0 = .ok (.aload_n 0, 1) := by decide +kernel
theorem dX4_cold_1 : decode cX4_cold 1 = .ok (.invokevirtual 136, 3) := by decide +kernel
theorem dX4_cold_4 : decode cX4_cold 4 = .ok (.aload_n 0, 1) := by decide +kernel
theorem dX4_cold_5 : decode cX4_cold 5 = .ok (.getfield 16, 3) := by decide +kernel
theorem dX4_cold_8 : decode cX4_cold 8 = .ok (.iconst 1, 1) := by decide +kernel
theorem dX4_cold_9 : decode cX4_cold 9 = .ok (.iconst 0, 1) := by decide +kernel
theorem dX4_cold_10 : decode cX4_cold 10 = .ok (.iastore, 1) := by decide +kernel
theorem dX4_cold_11 : decode cX4_cold 11 = .ok (.iconst (-1), 1) := by decide +kernel
theorem dX4_cold_12 : decode cX4_cold 12 = .ok (.istore_n 1, 1) := by decide +kernel
theorem dX4_cold_13 : decode cX4_cold 13 = .ok (.iconst 1, 1) := by decide +kernel
theorem dX4_cold_14 : decode cX4_cold 14 = .ok (.istore_n 2, 1) := by decide +kernel
theorem dX4_cold_15 : decode cX4_cold 15 = .ok (.iload_n 2, 1) := by decide +kernel
theorem dX4_cold_16 : decode cX4_cold 16 = .ok (.sipush 200, 3) := by decide +kernel
theorem dX4_cold_19 : decode cX4_cold 19 = .ok (.if_icmp .gt 23, 3) := by decide +kernel
theorem dX4_cold_22 : decode cX4_cold 22 = .ok (.iload_n 1, 1) := by decide +kernel
theorem dX4_cold_23 : decode cX4_cold 23 = .ok (.iconst (-1), 1) := by decide +kernel
theorem dX4_cold_24 : decode cX4_cold 24 = .ok (.if_icmp .ne 18, 3) := by decide +kernel
theorem dX4_cold_27 : decode cX4_cold 27 = .ok (.aload_n 0, 1) := by decide +kernel
theorem dX4_cold_28 : decode cX4_cold 28 = .ok (.invokevirtual 79, 3) := by decide +kernel
theorem dX4_cold_31 : decode cX4_cold 31 = .ok (.ifCond .le 5, 3) := by decide +kernel
theorem dX4_cold_34 : decode cX4_cold 34 = .ok (.iload_n 2, 1) := by decide +kernel
theorem dX4_cold_35 : decode cX4_cold 35 = .ok (.istore_n 1, 1) := by decide +kernel
theorem dX4_cold_36 : decode cX4_cold 36 = .ok (.iinc 2 1, 3) := by decide +kernel
theorem dX4_cold_39 : decode cX4_cold 39 = .ok (.goto (-24), 3) := by decide +kernel
theorem dX4_cold_42 : decode cX4_cold 42 = .ok (.aload_n 0, 1) := by decide +kernel
theorem dX4_cold_43 : decode cX4_cold 43 = .ok (.invokevirtual 139, 3) := by decide +kernel
theorem dX4_cold_46 : decode cX4_cold 46 = .ok (.iload_n 1, 1) := by decide +kernel
theorem dX4_cold_47 : decode cX4_cold 47 = .ok (.ireturn, 1) := by decide +kernel
theorem dX4_hoursOfCold_0 : decode cX4_hoursOfCold 0 = .ok (.aload_n 0, 1) := by decide +kernel
theorem dX4_hoursOfCold_1 : decode cX4_hoursOfCold 1 = .ok (.aload_n 0, 1) := by decide +kernel
theorem dX4_hoursOfCold_2 : decode cX4_hoursOfCold 2 = .ok (.invokevirtual 151, 3) := by decide +kernel
theorem dX4_hoursOfCold_5 : decode cX4_hoursOfCold 5 = .ok (.invokevirtual 105, 3) := by decide +kernel
theorem dX4_hoursOfCold_8 : decode cX4_hoursOfCold 8 = .ok (.ireturn, 1) := by decide +kernel
theorem dX4_meanHeat_0 : decode cX4_meanHeat 0 = .ok (.aload_n 0, 1) := by decide +kernel
theorem dX4_meanHeat_1 : decode cX4_meanHeat 1 = .ok (.iconst 0, 1) := by decide +kernel
theorem dX4_meanHeat_2 : decode cX4_meanHeat 2 = .ok (.putfield 26, 3) := by decide +kernel
theorem dX4_meanHeat_5 : decode cX4_meanHeat 5 = .ok (.iconst 0, 1) := by decide +kernel
theorem dX4_meanHeat_6 : decode cX4_meanHeat 6 = .ok (.istore_n 1, 1) := by decide +kernel
theorem dX4_meanHeat_7 : decode cX4_meanHeat 7 = .ok (.iconst 0, 1) := by decide +kernel
theorem dX4_meanHeat_8 : decode cX4_meanHeat 8 = .ok (.istore_n 2, 1) := by decide +kernel
theorem dX4_meanHeat_9 : decode cX4_meanHeat 9 = .ok (.iconst 0, 1) := by decide +kernel
theorem dX4_meanHeat_10 : decode cX4_meanHeat 10 = .ok (.istore_n 3, 1) := by decide +kernel
theorem dX4_meanHeat_11 : decode cX4_meanHeat 11 = .ok (.iload_n 3, 1) := by decide +kernel
theorem dX4_meanHeat_12 : decode cX4_meanHeat 12 = .ok (.aload_n 0, 1) := by decide +kernel
theorem dX4_meanHeat_13 : decode cX4_meanHeat 13 = .ok (.getfield 34, 3) := by decide +kernel
theorem dX4_meanHeat_16 : decode cX4_meanHeat 16 = .ok (.if_icmp .ge 36, 3) := by decide +kernel
theorem dX4_meanHeat_19 : decode cX4_meanHeat 19 = .ok (.aload_n 0, 1) := by decide +kernel
theorem dX4_meanHeat_20 : decode cX4_meanHeat 20 = .ok (.iload_n 3, 1) := by decide +kernel
theorem dX4_meanHeat_21 : decode cX4_meanHeat 21 = .ok (.invokevirtual 69, 3) := by decide +kernel
theorem dX4_meanHeat_24 : decode cX4_meanHeat 24 = .ok (.ifCond .ne 6, 3) := by decide +kernel
theorem dX4_meanHeat_27 : decode cX4_meanHeat 27 = .ok (.goto 19, 3) := by decide +kernel
theorem dX4_meanHeat_30 : decode cX4_meanHeat 30 = .ok (.iload_n 1, 1) := by decide +kernel
theorem dX4_meanHeat_31 : decode cX4_meanHeat 31 = .ok (.aload_n 0, 1) := by decide +kernel
theorem dX4_meanHeat_32 : decode cX4_meanHeat 32 = .ok (.getfield 16, 3) := by decide +kernel
theorem dX4_meanHeat_35 : decode cX4_meanHeat 35 = .ok (.iload_n 3, 1) := by decide +kernel
theorem dX4_meanHeat_36 : decode cX4_meanHeat 36 = .ok (.iconst 1, 1) := by decide +kernel
theorem dX4_meanHeat_37 : decode cX4_meanHeat 37 = .ok (.invokestatic 37, 3) := by decide +kernel
theorem dX4_meanHeat_40 : decode cX4_meanHeat 40 = .ok (.iaload, 1) := by decide +kernel
theorem dX4_meanHeat_41 : decode cX4_meanHeat 41 = .ok (.iadd, 1) := by decide +kernel
theorem dX4_meanHeat_42 : decode cX4_meanHeat 42 = .ok (.istore_n 1, 1) := by decide +kernel
theorem dX4_meanHeat_43 : decode cX4_meanHeat 43 = .ok (.iinc 2 1, 3) := by decide +kernel
theorem dX4_meanHeat_46 : decode cX4_meanHeat 46 = .ok (.iinc 3 1, 3) := by decide +kernel
theorem dX4_meanHeat_49 : decode cX4_meanHeat 49 = .ok (.goto (-38), 3) := by decide +kernel
theorem dX4_meanHeat_52 : decode cX4_meanHeat 52 = .ok (.iload_n 2, 1) := by decide +kernel
theorem dX4_meanHeat_53 : decode cX4_meanHeat 53 = .ok (.ifCond .ne 7, 3) := by decide +kernel
theorem dX4_meanHeat_56 : decode cX4_meanHeat 56 = .ok (.dconst 0, 1) := by decide +kernel
theorem dX4_meanHeat_57 : decode cX4_meanHeat 57 = .ok (.goto 8, 3) := by decide +kernel
theorem dX4_meanHeat_60 : decode cX4_meanHeat 60 = .ok (.iload_n 1, 1) := by decide +kernel
theorem dX4_meanHeat_61 : decode cX4_meanHeat 61 = .ok (.i2d, 1) := by decide +kernel
theorem dX4_meanHeat_62 : decode cX4_meanHeat 62 = .ok (.iload_n 2, 1) := by decide +kernel
theorem dX4_meanHeat_63 : decode cX4_meanHeat 63 = .ok (.i2d, 1) := by decide +kernel
theorem dX4_meanHeat_64 : decode cX4_meanHeat 64 = .ok (.ddiv, 1) := by decide +kernel
theorem dX4_meanHeat_65 : decode cX4_meanHeat 65 = .ok (.dreturn, 1) := by decide +kernel
theorem dX4_digest_0 : decode cX4_digest 0 = .ok (.aload_n 0, 1) := by decide +kernel
theorem dX4_digest_1 : decode cX4_digest 1 = .ok (.iconst 0, 1) := by decide +kernel
theorem dX4_digest_2 : decode cX4_digest 2 = .ok (.putfield 26, 3) := by decide +kernel
theorem dX4_digest_5 : decode cX4_digest 5 = .ok (.bipush 8, 2) := by decide +kernel
theorem dX4_digest_7 : decode cX4_digest 7 = .ok (.newarray .int, 2) := by decide +kernel
theorem dX4_digest_9 : decode cX4_digest 9 = .ok (.dup, 1) := by decide +kernel
theorem dX4_digest_10 : decode cX4_digest 10 = .ok (.iconst 0, 1) := by decide +kernel
theorem dX4_digest_11 : decode cX4_digest 11 = .ok (.aload_n 0, 1) := by decide +kernel
theorem dX4_digest_12 : decode cX4_digest 12 = .ok (.getfield 16, 3) := by decide +kernel
theorem dX4_digest_15 : decode cX4_digest 15 = .ok (.iconst 0, 1) := by decide +kernel
theorem dX4_digest_16 : decode cX4_digest 16 = .ok (.iaload, 1) := by decide +kernel
theorem dX4_digest_17 : decode cX4_digest 17 = .ok (.iastore, 1) := by decide +kernel
theorem dX4_digest_18 : decode cX4_digest 18 = .ok (.dup, 1) := by decide +kernel
theorem dX4_digest_19 : decode cX4_digest 19 = .ok (.iconst 1, 1) := by decide +kernel
theorem dX4_digest_20 : decode cX4_digest 20 = .ok (.aload_n 0, 1) := by decide +kernel
theorem dX4_digest_21 : decode cX4_digest 21 = .ok (.getfield 16, 3) := by decide +kernel
theorem dX4_digest_24 : decode cX4_digest 24 = .ok (.iconst 1, 1) := by decide +kernel
theorem dX4_digest_25 : decode cX4_digest 25 = .ok (.iaload, 1) := by decide +kernel
theorem dX4_digest_26 : decode cX4_digest 26 = .ok (.iastore, 1) := by decide +kernel
theorem dX4_digest_27 : decode cX4_digest 27 = .ok (.dup, 1) := by decide +kernel
theorem dX4_digest_28 : decode cX4_digest 28 = .ok (.iconst 2, 1) := by decide +kernel
theorem dX4_digest_29 : decode cX4_digest 29 = .ok (.aload_n 0, 1) := by decide +kernel
theorem dX4_digest_30 : decode cX4_digest 30 = .ok (.getfield 16, 3) := by decide +kernel
theorem dX4_digest_33 : decode cX4_digest 33 = .ok (.iconst 2, 1) := by decide +kernel
theorem dX4_digest_34 : decode cX4_digest 34 = .ok (.iaload, 1) := by decide +kernel
theorem dX4_digest_35 : decode cX4_digest 35 = .ok (.iastore, 1) := by decide +kernel
theorem dX4_digest_36 : decode cX4_digest 36 = .ok (.dup, 1) := by decide +kernel
theorem dX4_digest_37 : decode cX4_digest 37 = .ok (.iconst 3, 1) := by decide +kernel
theorem dX4_digest_38 : decode cX4_digest 38 = .ok (.aload_n 0, 1) := by decide +kernel
theorem dX4_digest_39 : decode cX4_digest 39 = .ok (.getfield 34, 3) := by decide +kernel
theorem dX4_digest_42 : decode cX4_digest 42 = .ok (.iastore, 1) := by decide +kernel
theorem dX4_digest_43 : decode cX4_digest 43 = .ok (.dup, 1) := by decide +kernel
theorem dX4_digest_44 : decode cX4_digest 44 = .ok (.iconst 4, 1) := by decide +kernel
theorem dX4_digest_45 : decode cX4_digest 45 = .ok (.aload_n 0, 1) := by decide +kernel
theorem dX4_digest_46 : decode cX4_digest 46 = .ok (.invokevirtual 114, 3) := by decide +kernel
theorem dX4_digest_49 : decode cX4_digest 49 = .ok (.iastore, 1) := by decide +kernel
theorem dX4_digest_50 : decode cX4_digest 50 = .ok (.dup, 1) := by decide +kernel
theorem dX4_digest_51 : decode cX4_digest 51 = .ok (.iconst 5, 1) := by decide +kernel
theorem dX4_digest_52 : decode cX4_digest 52 = .ok (.aload_n 0, 1) := by decide +kernel
theorem dX4_digest_53 : decode cX4_digest 53 = .ok (.invokevirtual 133, 3) := by decide +kernel
theorem dX4_digest_56 : decode cX4_digest 56 = .ok (.iastore, 1) := by decide +kernel
theorem dX4_digest_57 : decode cX4_digest 57 = .ok (.dup, 1) := by decide +kernel
theorem dX4_digest_58 : decode cX4_digest 58 = .ok (.bipush 6, 2) := by decide +kernel
theorem dX4_digest_60 : decode cX4_digest 60 = .ok (.aload_n 0, 1) := by decide +kernel
theorem dX4_digest_61 : decode cX4_digest 61 = .ok (.invokevirtual 148, 3) := by decide +kernel
theorem dX4_digest_64 : decode cX4_digest 64 = .ok (.iastore, 1) := by decide +kernel
theorem dX4_digest_65 : decode cX4_digest 65 = .ok (.dup, 1) := by decide +kernel
theorem dX4_digest_66 : decode cX4_digest 66 = .ok (.bipush 7, 2) := by decide +kernel
theorem dX4_digest_68 : decode cX4_digest 68 = .ok (.aload_n 0, 1) := by decide +kernel
theorem dX4_digest_69 : decode cX4_digest 69 = .ok (.invokevirtual 151, 3) := by decide +kernel
theorem dX4_digest_72 : decode cX4_digest 72 = .ok (.iastore, 1) := by decide +kernel
theorem dX4_digest_73 : decode cX4_digest 73 = .ok (.astore_n 1, 1) := by decide +kernel
theorem dX4_digest_74 : decode cX4_digest 74 = .ok (.ldc2_w 154, 3) := by decide +kernel
theorem dX4_digest_77 : decode cX4_digest 77 = .ok (.lstore_n 2, 1) := by decide +kernel
theorem dX4_digest_78 : decode cX4_digest 78 = .ok (.aload_n 1, 1) := by decide +kernel
theorem dX4_digest_79 : decode cX4_digest 79 = .ok (.astore 4, 2) := by decide +kernel
theorem dX4_digest_81 : decode cX4_digest 81 = .ok (.aload 4, 2) := by decide +kernel
theorem dX4_digest_83 : decode cX4_digest 83 = .ok (.arraylength, 1) := by decide +kernel
theorem dX4_digest_84 : decode cX4_digest 84 = .ok (.istore 5, 2) := by decide +kernel
theorem dX4_digest_86 : decode cX4_digest 86 = .ok (.iconst 0, 1) := by decide +kernel
theorem dX4_digest_87 : decode cX4_digest 87 = .ok (.istore 6, 2) := by decide +kernel
theorem dX4_digest_89 : decode cX4_digest 89 = .ok (.iload 6, 2) := by decide +kernel
theorem dX4_digest_91 : decode cX4_digest 91 = .ok (.iload 5, 2) := by decide +kernel
theorem dX4_digest_93 : decode cX4_digest 93 = .ok (.if_icmp .ge 26, 3) := by decide +kernel
theorem dX4_digest_96 : decode cX4_digest 96 = .ok (.aload 4, 2) := by decide +kernel
theorem dX4_digest_98 : decode cX4_digest 98 = .ok (.iload 6, 2) := by decide +kernel
theorem dX4_digest_100 : decode cX4_digest 100 = .ok (.iaload, 1) := by decide +kernel
theorem dX4_digest_101 : decode cX4_digest 101 = .ok (.istore 7, 2) := by decide +kernel
theorem dX4_digest_103 : decode cX4_digest 103 = .ok (.lload_n 2, 1) := by decide +kernel
theorem dX4_digest_104 : decode cX4_digest 104 = .ok (.ldc2_w 156, 3) := by decide +kernel
theorem dX4_digest_107 : decode cX4_digest 107 = .ok (.lmul, 1) := by decide +kernel
theorem dX4_digest_108 : decode cX4_digest 108 = .ok (.iload 7, 2) := by decide +kernel
theorem dX4_digest_110 : decode cX4_digest 110 = .ok (.i2l, 1) := by decide +kernel
theorem dX4_digest_111 : decode cX4_digest 111 = .ok (.ladd, 1) := by decide +kernel
theorem dX4_digest_112 : decode cX4_digest 112 = .ok (.lstore_n 2, 1) := by decide +kernel
theorem dX4_digest_113 : decode cX4_digest 113 = .ok (.iinc 6 1, 3) := by decide +kernel
theorem dX4_digest_116 : decode cX4_digest 116 = .ok (.goto (-27), 3) := by decide +kernel
theorem dX4_digest_119 : decode cX4_digest 119 = .ok (.iconst 0, 1) := by decide +kernel
theorem dX4_digest_120 : decode cX4_digest 120 = .ok (.istore 4, 2) := by decide +kernel
theorem dX4_digest_122 : decode cX4_digest 122 = .ok (.iload 4, 2) := by decide +kernel
theorem dX4_digest_124 : decode cX4_digest 124 = .ok (.iconst 5, 1) := by decide +kernel
theorem dX4_digest_125 : decode cX4_digest 125 = .ok (.if_icmp .ge 57, 3) := by decide +kernel
theorem dX4_digest_128 : decode cX4_digest 128 = .ok (.lload_n 2, 1) := by decide +kernel
theorem dX4_digest_129 : decode cX4_digest 129 = .ok (.ldc2_w 156, 3) := by decide +kernel
theorem dX4_digest_132 : decode cX4_digest 132 = .ok (.lmul, 1) := by decide +kernel
theorem dX4_digest_133 : decode cX4_digest 133 = .ok (.aload_n 0, 1) := by decide +kernel
theorem dX4_digest_134 : decode cX4_digest 134 = .ok (.getfield 16, 3) := by decide +kernel
theorem dX4_digest_137 : decode cX4_digest 137 = .ok (.iload 4, 2) := by decide +kernel
theorem dX4_digest_139 : decode cX4_digest 139 = .ok (.iconst 0, 1) := by decide +kernel
theorem dX4_digest_140 : decode cX4_digest 140 = .ok (.invokestatic 22, 3) := by decide +kernel
theorem dX4_digest_143 : decode cX4_digest 143 = .ok (.iaload, 1) := by decide +kernel
theorem dX4_digest_144 : decode cX4_digest 144 = .ok (.i2l, 1) := by decide +kernel
theorem dX4_digest_145 : decode cX4_digest 145 = .ok (.ladd, 1) := by decide +kernel
theorem dX4_digest_146 : decode cX4_digest 146 = .ok (.ldc2_w 156, 3) := by decide +kernel
theorem dX4_digest_149 : decode cX4_digest 149 = .ok (.lmul, 1) := by decide +kernel
theorem dX4_digest_150 : decode cX4_digest 150 = .ok (.aload_n 0, 1) := by decide +kernel
theorem dX4_digest_151 : decode cX4_digest 151 = .ok (.getfield 16, 3) := by decide +kernel
theorem dX4_digest_154 : decode cX4_digest 154 = .ok (.iload 4, 2) := by decide +kernel
theorem dX4_digest_156 : decode cX4_digest 156 = .ok (.iconst 1, 1) := by decide +kernel
theorem dX4_digest_157 : decode cX4_digest 157 = .ok (.invokestatic 22, 3) := by decide +kernel
theorem dX4_digest_160 : decode cX4_digest 160 = .ok (.iaload, 1) := by decide +kernel
theorem dX4_digest_161 : decode cX4_digest 161 = .ok (.i2l, 1) := by decide +kernel
theorem dX4_digest_162 : decode cX4_digest 162 = .ok (.ladd, 1) := by decide +kernel
theorem dX4_digest_163 : decode cX4_digest 163 = .ok (.ldc2_w 156, 3) := by decide +kernel
theorem dX4_digest_166 : decode cX4_digest 166 = .ok (.lmul, 1) := by decide +kernel
theorem dX4_digest_167 : decode cX4_digest 167 = .ok (.aload_n 0, 1) := by decide +kernel
theorem dX4_digest_168 : decode cX4_digest 168 = .ok (.iload 4, 2) := by decide +kernel
theorem dX4_digest_170 : decode cX4_digest 170 = .ok (.invokevirtual 111, 3) := by decide +kernel
theorem dX4_digest_173 : decode cX4_digest 173 = .ok (.i2l, 1) := by decide +kernel
theorem dX4_digest_174 : decode cX4_digest 174 = .ok (.ladd, 1) := by decide +kernel
theorem dX4_digest_175 : decode cX4_digest 175 = .ok (.lstore_n 2, 1) := by decide +kernel
theorem dX4_digest_176 : decode cX4_digest 176 = .ok (.iinc 4 1, 3) := by decide +kernel
theorem dX4_digest_179 : decode cX4_digest 179 = .ok (.goto (-57), 3) := by decide +kernel
theorem dX4_digest_182 : decode cX4_digest 182 = .ok (.iconst 0, 1) := by decide +kernel
theorem dX4_digest_183 : decode cX4_digest 183 = .ok (.istore 4, 2) := by decide +kernel
theorem dX4_digest_185 : decode cX4_digest 185 = .ok (.iload 4, 2) := by decide +kernel
theorem dX4_digest_187 : decode cX4_digest 187 = .ok (.aload_n 0, 1) := by decide +kernel
theorem dX4_digest_188 : decode cX4_digest 188 = .ok (.getfield 34, 3) := by decide +kernel
theorem dX4_digest_191 : decode cX4_digest 191 = .ok (.if_icmp .ge 198, 3) := by decide +kernel
theorem dX4_digest_194 : decode cX4_digest 194 = .ok (.aload_n 0, 1) := by decide +kernel
theorem dX4_digest_195 : decode cX4_digest 195 = .ok (.getfield 16, 3) := by decide +kernel
theorem dX4_digest_198 : decode cX4_digest 198 = .ok (.iload 4, 2) := by decide +kernel
theorem dX4_digest_200 : decode cX4_digest 200 = .ok (.iconst 4, 1) := by decide +kernel
theorem dX4_digest_201 : decode cX4_digest 201 = .ok (.invokestatic 37, 3) := by decide +kernel
theorem dX4_digest_204 : decode cX4_digest 204 = .ok (.iaload, 1) := by decide +kernel
theorem dX4_digest_205 : decode cX4_digest 205 = .ok (.istore 5, 2) := by decide +kernel
theorem dX4_digest_207 : decode cX4_digest 207 = .ok (.bipush 9, 2) := by decide +kernel
theorem dX4_digest_209 : decode cX4_digest 209 = .ok (.newarray .int, 2) := by decide +kernel
theorem dX4_digest_211 : decode cX4_digest 211 = .ok (.dup, 1) := by decide +kernel
theorem dX4_digest_212 : decode cX4_digest 212 = .ok (.iconst 0, 1) := by decide +kernel
theorem dX4_digest_213 : decode cX4_digest 213 = .ok (.aload_n 0, 1) := by decide +kernel
theorem dX4_digest_214 : decode cX4_digest 214 = .ok (.getfield 9, 3) := by decide +kernel
theorem dX4_digest_217 : decode cX4_digest 217 = .ok (.iload 4, 2) := by decide +kernel
theorem dX4_digest_219 : decode cX4_digest 219 = .ok (.iaload, 1) := by decide +kernel
theorem dX4_digest_220 : decode cX4_digest 220 = .ok (.iastore, 1) := by decide +kernel
theorem dX4_digest_221 : decode cX4_digest 221 = .ok (.dup, 1) := by decide +kernel
theorem dX4_digest_222 : decode cX4_digest 222 = .ok (.iconst 1, 1) := by decide +kernel
theorem dX4_digest_223 : decode cX4_digest 223 = .ok (.aload_n 0, 1) := by decide +kernel
theorem dX4_digest_224 : decode cX4_digest 224 = .ok (.getfield 16, 3) := by decide +kernel
theorem dX4_digest_227 : decode cX4_digest 227 = .ok (.iload 4, 2) := by decide +kernel
theorem dX4_digest_229 : decode cX4_digest 229 = .ok (.iconst 0, 1) := by decide +kernel
theorem dX4_digest_230 : decode cX4_digest 230 = .ok (.invokestatic 37, 3) := by decide +kernel
theorem dX4_digest_233 : decode cX4_digest 233 = .ok (.iaload, 1) := by decide +kernel
theorem dX4_digest_234 : decode cX4_digest 234 = .ok (.iastore, 1) := by decide +kernel
theorem dX4_digest_235 : decode cX4_digest 235 = .ok (.dup, 1) := by decide +kernel
theorem dX4_digest_236 : decode cX4_digest 236 = .ok (.iconst 2, 1) := by decide +kernel
theorem dX4_digest_237 : decode cX4_digest 237 = .ok (.aload_n 0, 1) := by decide +kernel
theorem dX4_digest_238 : decode cX4_digest 238 = .ok (.getfield 16, 3) := by decide +kernel
theorem dX4_digest_241 : decode cX4_digest 241 = .ok (.iload 4, 2) := by decide +kernel
theorem dX4_digest_243 : decode cX4_digest 243 = .ok (.iconst 1, 1) := by decide +kernel
theorem dX4_digest_244 : decode cX4_digest 244 = .ok (.invokestatic 37, 3) := by decide +kernel
theorem dX4_digest_247 : decode cX4_digest 247 = .ok (.iaload, 1) := by decide +kernel
theorem dX4_digest_248 : decode cX4_digest 248 = .ok (.iastore, 1) := by decide +kernel
theorem dX4_digest_249 : decode cX4_digest 249 = .ok (.dup, 1) := by decide +kernel
theorem dX4_digest_250 : decode cX4_digest 250 = .ok (.iconst 3, 1) := by decide +kernel
theorem dX4_digest_251 : decode cX4_digest 251 = .ok (.aload_n 0, 1) := by decide +kernel
theorem dX4_digest_252 : decode cX4_digest 252 = .ok (.getfield 16, 3) := by decide +kernel
theorem dX4_digest_255 : decode cX4_digest 255 = .ok (.iload 4, 2) := by decide +kernel
theorem dX4_digest_257 : decode cX4_digest 257 = .ok (.iconst 2, 1) := by decide +kernel
theorem dX4_digest_258 : decode cX4_digest 258 = .ok (.invokestatic 37, 3) := by decide +kernel
theorem dX4_digest_261 : decode cX4_digest 261 = .ok (.iaload, 1) := by decide +kernel
theorem dX4_digest_262 : decode cX4_digest 262 = .ok (.iastore, 1) := by decide +kernel
theorem dX4_digest_263 : decode cX4_digest 263 = .ok (.dup, 1) := by decide +kernel
theorem dX4_digest_264 : decode cX4_digest 264 = .ok (.iconst 4, 1) := by decide +kernel
theorem dX4_digest_265 : decode cX4_digest 265 = .ok (.aload_n 0, 1) := by decide +kernel
theorem dX4_digest_266 : decode cX4_digest 266 = .ok (.iload 4, 2) := by decide +kernel
theorem dX4_digest_268 : decode cX4_digest 268 = .ok (.invokevirtual 99, 3) := by decide +kernel
theorem dX4_digest_271 : decode cX4_digest 271 = .ok (.iastore, 1) := by decide +kernel
theorem dX4_digest_272 : decode cX4_digest 272 = .ok (.dup, 1) := by decide +kernel
theorem dX4_digest_273 : decode cX4_digest 273 = .ok (.iconst 5, 1) := by decide +kernel
theorem dX4_digest_274 : decode cX4_digest 274 = .ok (.aload_n 0, 1) := by decide +kernel
theorem dX4_digest_275 : decode cX4_digest 275 = .ok (.iload 4, 2) := by decide +kernel
theorem dX4_digest_277 : decode cX4_digest 277 = .ok (.iconst 1, 1) := by decide +kernel
theorem dX4_digest_278 : decode cX4_digest 278 = .ok (.invokevirtual 120, 3) := by decide +kernel
theorem dX4_digest_281 : decode cX4_digest 281 = .ok (.ifCond .eq 7, 3) := by decide +kernel
theorem dX4_digest_284 : decode cX4_digest 284 = .ok (.iconst 1, 1) := by decide +kernel
theorem dX4_digest_285 : decode cX4_digest 285 = .ok (.goto 4, 3) := by decide +kernel
theorem dX4_digest_288 : decode cX4_digest 288 = .ok (.iconst 0, 1) := by decide +kernel
theorem dX4_digest_289 : decode cX4_digest 289 = .ok (.iastore, 1) := by decide +kernel
theorem dX4_digest_290 : decode cX4_digest 290 = .ok (.dup, 1) := by decide +kernel
theorem dX4_digest_291 : decode cX4_digest 291 = .ok (.bipush 6, 2) := by decide +kernel
theorem dX4_digest_293 : decode cX4_digest 293 = .ok (.aload_n 0, 1) := by decide +kernel
theorem dX4_digest_294 : decode cX4_digest 294 = .ok (.iload 4, 2) := by decide +kernel
theorem dX4_digest_296 : decode cX4_digest 296 = .ok (.iconst 2, 1) := by decide +kernel
theorem dX4_digest_297 : decode cX4_digest 297 = .ok (.invokevirtual 120, 3) := by decide +kernel
theorem dX4_digest_300 : decode cX4_digest 300 = .ok (.ifCond .eq 7, 3) := by decide +kernel
theorem dX4_digest_303 : decode cX4_digest 303 = .ok (.iconst 1, 1) := by decide +kernel
theorem dX4_digest_304 : decode cX4_digest 304 = .ok (.goto 4, 3) := by decide +kernel
theorem dX4_digest_307 : decode cX4_digest 307 = .ok (.iconst 0, 1) := by decide +kernel
theorem dX4_digest_308 : decode cX4_digest 308 = .ok (.iastore, 1) := by decide +kernel
theorem dX4_digest_309 : decode cX4_digest 309 = .ok (.dup, 1) := by decide +kernel
theorem dX4_digest_310 : decode cX4_digest 310 = .ok (.bipush 7, 2) := by decide +kernel
theorem dX4_digest_312 : decode cX4_digest 312 = .ok (.iload 5, 2) := by decide +kernel
theorem dX4_digest_314 : decode cX4_digest 314 = .ok (.iconst 1, 1) := by decide +kernel
theorem dX4_digest_315 : decode cX4_digest 315 = .ok (.if_icmp .ne 7, 3) := by decide +kernel
theorem dX4_digest_318 : decode cX4_digest 318 = .ok (.iconst 1, 1) := by decide +kernel
theorem dX4_digest_319 : decode cX4_digest 319 = .ok (.goto 4, 3) := by decide +kernel
theorem dX4_digest_322 : decode cX4_digest 322 = .ok (.iconst 0, 1) := by decide +kernel
theorem dX4_digest_323 : decode cX4_digest 323 = .ok (.iastore, 1) := by decide +kernel
theorem dX4_digest_324 : decode cX4_digest 324 = .ok (.dup, 1) := by decide +kernel
theorem dX4_digest_325 : decode cX4_digest 325 = .ok (.bipush 8, 2) := by decide +kernel
theorem dX4_digest_327 : decode cX4_digest 327 = .ok (.iload 5, 2) := by decide +kernel
theorem dX4_digest_329 : decode cX4_digest 329 = .ok (.iconst 2, 1) := by decide +kernel
theorem dX4_digest_330 : decode cX4_digest 330 = .ok (.if_icmp .ne 7, 3) := by decide +kernel
theorem dX4_digest_333 : decode cX4_digest 333 = .ok (.iconst 1, 1) := by decide +kernel
theorem dX4_digest_334 : decode cX4_digest 334 = .ok (.goto 4, 3) := by decide +kernel
theorem dX4_digest_337 : decode cX4_digest 337 = .ok (.iconst 0, 1) := by decide +kernel
theorem dX4_digest_338 : decode cX4_digest 338 = .ok (.iastore, 1) := by decide +kernel
theorem dX4_digest_339 : decode cX4_digest 339 = .ok (.astore 6, 2) := by decide +kernel
theorem dX4_digest_341 : decode cX4_digest 341 = .ok (.aload 6, 2) := by decide +kernel
theorem dX4_digest_343 : decode cX4_digest 343 = .ok (.astore 7, 2) := by decide +kernel
theorem dX4_digest_345 : decode cX4_digest 345 = .ok (.aload 7, 2) := by decide +kernel
theorem dX4_digest_347 : decode cX4_digest 347 = .ok (.arraylength, 1) := by decide +kernel
theorem dX4_digest_348 : decode cX4_digest 348 = .ok (.istore 8, 2) := by decide +kernel
theorem dX4_digest_350 : decode cX4_digest 350 = .ok (.iconst 0, 1) := by decide +kernel
theorem dX4_digest_351 : decode cX4_digest 351 = .ok (.istore 9, 2) := by decide +kernel
theorem dX4_digest_353 : decode cX4_digest 353 = .ok (.iload 9, 2) := by decide +kernel
theorem dX4_digest_355 : decode cX4_digest 355 = .ok (.iload 8, 2) := by decide +kernel
theorem dX4_digest_357 : decode cX4_digest 357 = .ok (.if_icmp .ge 26, 3) := by decide +kernel
theorem dX4_digest_360 : decode cX4_digest 360 = .ok (.aload 7, 2) := by decide +kernel
theorem dX4_digest_362 : decode cX4_digest 362 = .ok (.iload 9, 2) := by decide +kernel
theorem dX4_digest_364 : decode cX4_digest 364 = .ok (.iaload, 1) := by decide +kernel
theorem dX4_digest_365 : decode cX4_digest 365 = .ok (.istore 10, 2) := by decide +kernel
theorem dX4_digest_367 : decode cX4_digest 367 = .ok (.lload_n 2, 1) := by decide +kernel
theorem dX4_digest_368 : decode cX4_digest 368 = .ok (.ldc2_w 156, 3) := by decide +kernel
theorem dX4_digest_371 : decode cX4_digest 371 = .ok (.lmul, 1) := by decide +kernel
theorem dX4_digest_372 : decode cX4_digest 372 = .ok (.iload 10, 2) := by decide +kernel
theorem dX4_digest_374 : decode cX4_digest 374 = .ok (.i2l, 1) := by decide +kernel
theorem dX4_digest_375 : decode cX4_digest 375 = .ok (.ladd, 1) := by decide +kernel
theorem dX4_digest_376 : decode cX4_digest 376 = .ok (.lstore_n 2, 1) := by decide +kernel
theorem dX4_digest_377 : decode cX4_digest 377 = .ok (.iinc 9 1, 3) := by decide +kernel
theorem dX4_digest_380 : decode cX4_digest 380 = .ok (.goto (-27), 3) := by decide +kernel
theorem dX4_digest_383 : decode cX4_digest 383 = .ok (.iinc 4 1, 3) := by decide +kernel
theorem dX4_digest_386 : decode cX4_digest 386 = .ok (.goto (-201), 3) := by decide +kernel
theorem dX4_digest_389 : decode cX4_digest 389 = .ok (.iconst 0, 1) := by decide +kernel
theorem dX4_digest_390 : decode cX4_digest 390 = .ok (.istore 4, 2) := by decide +kernel
theorem dX4_digest_392 : decode cX4_digest 392 = .ok (.iload 4, 2) := by decide +kernel
theorem dX4_digest_394 : decode cX4_digest 394 = .ok (.bipush 6, 2) := by decide +kernel
theorem dX4_digest_396 : decode cX4_digest 396 = .ok (.if_icmp .ge 35, 3) := by decide +kernel
theorem dX4_digest_399 : decode cX4_digest 399 = .ok (.lload_n 2, 1) := by decide +kernel
theorem dX4_digest_400 : decode cX4_digest 400 = .ok (.ldc2_w 156, 3) := by decide +kernel
theorem dX4_digest_403 : decode cX4_digest 403 = .ok (.lmul, 1) := by decide +kernel
theorem dX4_digest_404 : decode cX4_digest 404 = .ok (.aload_n 0, 1) := by decide +kernel
theorem dX4_digest_405 : decode cX4_digest 405 = .ok (.iload 4, 2) := by decide +kernel
theorem dX4_digest_407 : decode cX4_digest 407 = .ok (.invokevirtual 127, 3) := by decide +kernel
theorem dX4_digest_410 : decode cX4_digest 410 = .ok (.i2l, 1) := by decide +kernel
theorem dX4_digest_411 : decode cX4_digest 411 = .ok (.ladd, 1) := by decide +kernel
theorem dX4_digest_412 : decode cX4_digest 412 = .ok (.ldc2_w 156, 3) := by decide +kernel
theorem dX4_digest_415 : decode cX4_digest 415 = .ok (.lmul, 1) := by decide +kernel
theorem dX4_digest_416 : decode cX4_digest 416 = .ok (.aload_n 0, 1) := by decide +kernel
theorem dX4_digest_417 : decode cX4_digest 417 = .ok (.iload 4, 2) := by decide +kernel
theorem dX4_digest_419 : decode cX4_digest 419 = .ok (.invokevirtual 130, 3) := by decide +kernel
theorem dX4_digest_422 : decode cX4_digest 422 = .ok (.i2l, 1) := by decide +kernel
theorem dX4_digest_423 : decode cX4_digest 423 = .ok (.ladd, 1) := by decide +kernel
theorem dX4_digest_424 : decode cX4_digest 424 = .ok (.lstore_n 2, 1) := by decide +kernel
theorem dX4_digest_425 : decode cX4_digest 425 = .ok (.iinc 4 1, 3) := by decide +kernel
theorem dX4_digest_428 : decode cX4_digest 428 = .ok (.goto (-36), 3) := by decide +kernel
theorem dX4_digest_431 : decode cX4_digest 431 = .ok (.lload_n 2, 1) := by decide +kernel
theorem dX4_digest_432 : decode cX4_digest 432 = .ok (.lreturn, 1) := by decide +kernel
theorem dJ9_abs_0f7a4_0 : decode cJ9_abs_0f7a4 0 = .ok (.iload_n 0, 1) := by decide +kernel
theorem dJ9_abs_0f7a4_1 : decode cJ9_abs_0f7a4 1 = .ok (.ifCond .ge 8, 3) := by decide +kernel
theorem dJ9_abs_0f7a4_4 : decode cJ9_abs_0f7a4 4 = .ok (.iload_n 0, 1) := by decide +kernel
theorem dJ9_abs_0f7a4_5 : decode cJ9_abs_0f7a4 5 = .ok (.ineg, 1) := by decide +kernel
theorem dJ9_abs_0f7a4_6 : decode cJ9_abs_0f7a4 6 = .ok (.goto 4, 3) := by decide +kernel
theorem dJ9_abs_0f7a4_9 : decode cJ9_abs_0f7a4 9 = .ok (.iload_n 0, 1) := by decide +kernel
theorem dJ9_abs_0f7a4_10 : decode cJ9_abs_0f7a4 10 = .ok (.ireturn, 1) := by decide +kernel
theorem dJ9_max_7cf53_0 : decode cJ9_max_7cf53 0 = .ok (.iload_n 0, 1) := by decide +kernel
theorem dJ9_max_7cf53_1 : decode cJ9_max_7cf53 1 = .ok (.iload_n 1, 1) := by decide +kernel
theorem dJ9_max_7cf53_2 : decode cJ9_max_7cf53 2 = .ok (.if_icmp .lt 7, 3) := by decide +kernel
theorem dJ9_max_7cf53_5 : decode cJ9_max_7cf53 5 = .ok (.iload_n 0, 1) := by decide +kernel
theorem dJ9_max_7cf53_6 : decode cJ9_max_7cf53 6 = .ok (.goto 4, 3) := by decide +kernel
theorem dJ9_max_7cf53_9 : decode cJ9_max_7cf53 9 = .ok (.iload_n 1, 1) := by decide +kernel
theorem dJ9_max_7cf53_10 : decode cJ9_max_7cf53 10 = .ok (.ireturn, 1) := by decide +kernel
theorem dJ9_min_7cf53_0 : decode cJ9_min_7cf53 0 = .ok (.iload_n 0, 1) := by decide +kernel
theorem dJ9_min_7cf53_1 : decode cJ9_min_7cf53 1 = .ok (.iload_n 1, 1) := by decide +kernel
theorem dJ9_min_7cf53_2 : decode cJ9_min_7cf53 2 = .ok (.if_icmp .gt 7, 3) := by decide +kernel
theorem dJ9_min_7cf53_5 : decode cJ9_min_7cf53 5 = .ok (.iload_n 0, 1) := by decide +kernel
theorem dJ9_min_7cf53_6 : decode cJ9_min_7cf53 6 = .ok (.goto 4, 3) := by decide +kernel
theorem dJ9_min_7cf53_9 : decode cJ9_min_7cf53 9 = .ok (.iload_n 1, 1) := by decide +kernel
theorem dJ9_min_7cf53_10 : decode cJ9_min_7cf53 10 = .ok (.ireturn, 1) := by decide +kernel
theorem dL_make_0 : decode cL_make 0 = .ok (.aload 4, 2) := by decide +kernel
theorem dL_make_2 : decode cL_make 2 = .ok (.iconst 0, 1) := by decide +kernel
theorem dL_make_3 : decode cL_make 3 = .ok (.aload_n 0, 1) := by decide +kernel
theorem dL_make_4 : decode cL_make 4 = .ok (.iload_n 1, 1) := by decide +kernel
theorem dL_make_5 : decode cL_make 5 = .ok (.iload_n 2, 1) := by decide +kernel
theorem dL_make_6 : decode cL_make 6 = .ok (.iload_n 3, 1) := by decide +kernel
theorem dL_make_7 : decode cL_make 7 = .ok (.invokevirtual 7, 3) := by decide +kernel
theorem dL_make_10 : decode cL_make 10 = .ok (.i2l, 1) := by decide +kernel
theorem dL_make_11 : decode cL_make 11 = .ok (.lastore, 1) := by decide +kernel
theorem dL_make_12 : decode cL_make 12 = .ok (.goto 15, 3) := by decide +kernel
theorem dL_make_15 : decode cL_make 15 = .ok (.astore 5, 2) := by decide +kernel
theorem dL_make_17 : decode cL_make 17 = .ok (.iconst 1, 1) := by decide +kernel
theorem dL_make_18 : decode cL_make 18 = .ok (.ireturn, 1) := by decide +kernel
theorem dL_make_19 : decode cL_make 19 = .ok (.astore 5, 2) := by decide +kernel
theorem dL_make_21 : decode cL_make 21 = .ok (.iconst 2, 1) := by decide +kernel
theorem dL_make_22 : decode cL_make 22 = .ok (.ireturn, 1) := by decide +kernel
theorem dL_make_23 : decode cL_make 23 = .ok (.astore 5, 2) := by decide +kernel
theorem dL_make_25 : decode cL_make 25 = .ok (.iconst 3, 1) := by decide +kernel
theorem dL_make_26 : decode cL_make 26 = .ok (.ireturn, 1) := by decide +kernel
theorem dL_make_27 : decode cL_make 27 = .ok (.iconst 0, 1) := by decide +kernel
theorem dL_make_28 : decode cL_make 28 = .ok (.ireturn, 1) := by decide +kernel
theorem dL_move_0 : decode cL_move 0 = .ok (.aload_n 3, 1) := by decide +kernel
theorem dL_move_1 : decode cL_move 1 = .ok (.iconst 0, 1) := by decide +kernel
theorem dL_move_2 : decode cL_move 2 = .ok (.aload_n 0, 1) := by decide +kernel
theorem dL_move_3 : decode cL_move 3 = .ok (.iload_n 1, 1) := by decide +kernel
theorem dL_move_4 : decode cL_move 4 = .ok (.iload_n 2, 1) := by decide +kernel
theorem dL_move_5 : decode cL_move 5 = .ok (.invokevirtual 19, 3) := by decide +kernel
theorem dL_move_8 : decode cL_move 8 = .ok (.i2l, 1) := by decide +kernel
theorem dL_move_9 : decode cL_move 9 = .ok (.lastore, 1) := by decide +kernel
theorem dL_move_10 : decode cL_move 10 = .ok (.goto 11, 3) := by decide +kernel
theorem dL_move_13 : decode cL_move 13 = .ok (.astore 4, 2) := by decide +kernel
theorem dL_move_15 : decode cL_move 15 = .ok (.iconst 1, 1) := by decide +kernel
theorem dL_move_16 : decode cL_move 16 = .ok (.ireturn, 1) := by decide +kernel
theorem dL_move_17 : decode cL_move 17 = .ok (.astore 4, 2) := by decide +kernel
theorem dL_move_19 : decode cL_move 19 = .ok (.iconst 2, 1) := by decide +kernel
theorem dL_move_20 : decode cL_move 20 = .ok (.ireturn, 1) := by decide +kernel
theorem dL_move_21 : decode cL_move 21 = .ok (.iconst 0, 1) := by decide +kernel
theorem dL_move_22 : decode cL_move 22 = .ok (.ireturn, 1) := by decide +kernel
theorem dL_keep_0 : decode cL_keep 0 = .ok (.aload_n 2, 1) := by decide +kernel
theorem dL_keep_1 : decode cL_keep 1 = .ok (.iconst 0, 1) := by decide +kernel
theorem dL_keep_2 : decode cL_keep 2 = .ok (.aload_n 0, 1) := by decide +kernel
theorem dL_keep_3 : decode cL_keep 3 = .ok (.iload_n 1, 1) := by decide +kernel
theorem dL_keep_4 : decode cL_keep 4 = .ok (.invokevirtual 23, 3) := by decide +kernel
theorem dL_keep_7 : decode cL_keep 7 = .ok (.i2l, 1) := by decide +kernel
theorem dL_keep_8 : decode cL_keep 8 = .ok (.lastore, 1) := by decide +kernel
theorem dL_keep_9 : decode cL_keep 9 = .ok (.goto 9, 3) := by decide +kernel
theorem dL_keep_12 : decode cL_keep 12 = .ok (.astore_n 3, 1) := by decide +kernel
theorem dL_keep_13 : decode cL_keep 13 = .ok (.iconst 1, 1) := by decide +kernel
theorem dL_keep_14 : decode cL_keep 14 = .ok (.ireturn, 1) := by decide +kernel
theorem dL_keep_15 : decode cL_keep 15 = .ok (.astore_n 3, 1) := by decide +kernel
theorem dL_keep_16 : decode cL_keep 16 = .ok (.iconst 2, 1) := by decide +kernel
theorem dL_keep_17 : decode cL_keep 17 = .ok (.ireturn, 1) := by decide +kernel
theorem dL_keep_18 : decode cL_keep 18 = .ok (.iconst 0, 1) := by decide +kernel
theorem dL_keep_19 : decode cL_keep 19 = .ok (.ireturn, 1) := by decide +kernel
theorem dL_set_0 : decode cL_set 0 = .ok (.aload_n 3, 1) := by decide +kernel
theorem dL_set_1 : decode cL_set 1 = .ok (.iconst 0, 1) := by decide +kernel
theorem dL_set_2 : decode cL_set 2 = .ok (.aload_n 0, 1) := by decide +kernel
theorem dL_set_3 : decode cL_set 3 = .ok (.iload_n 1, 1) := by decide +kernel
theorem dL_set_4 : decode cL_set 4 = .ok (.iload_n 2, 1) := by decide +kernel
theorem dL_set_5 : decode cL_set 5 = .ok (.invokevirtual 27, 3) := by decide +kernel
theorem dL_set_8 : decode cL_set 8 = .ok (.i2l, 1) := by decide +kernel
theorem dL_set_9 : decode cL_set 9 = .ok (.lastore, 1) := by decide +kernel
theorem dL_set_10 : decode cL_set 10 = .ok (.goto 11, 3) := by decide +kernel
theorem dL_set_13 : decode cL_set 13 = .ok (.astore 4, 2) := by decide +kernel
theorem dL_set_15 : decode cL_set 15 = .ok (.iconst 1, 1) := by decide +kernel
theorem dL_set_16 : decode cL_set 16 = .ok (.ireturn, 1) := by decide +kernel
theorem dL_set_17 : decode cL_set 17 = .ok (.astore 4, 2) := by decide +kernel
theorem dL_set_19 : decode cL_set 19 = .ok (.iconst 2, 1) := by decide +kernel
theorem dL_set_20 : decode cL_set 20 = .ok (.ireturn, 1) := by decide +kernel
theorem dL_set_21 : decode cL_set 21 = .ok (.iconst 0, 1) := by decide +kernel
theorem dL_set_22 : decode cL_set 22 = .ok (.ireturn, 1) := by decide +kernel
theorem dL_pass_0 : decode cL_pass 0 = .ok (.aload_n 2, 1) := by decide +kernel
theorem dL_pass_1 : decode cL_pass 1 = .ok (.iconst 0, 1) := by decide +kernel
theorem dL_pass_2 : decode cL_pass 2 = .ok (.aload_n 0, 1) := by decide +kernel
theorem dL_pass_3 : decode cL_pass 3 = .ok (.iload_n 1, 1) := by decide +kernel
theorem dL_pass_4 : decode cL_pass 4 = .ok (.invokevirtual 30, 3) := by decide +kernel
theorem dL_pass_7 : decode cL_pass 7 = .ok (.i2l, 1) := by decide +kernel
theorem dL_pass_8 : decode cL_pass 8 = .ok (.lastore, 1) := by decide +kernel
theorem dL_pass_9 : decode cL_pass 9 = .ok (.goto 6, 3) := by decide +kernel
theorem dL_pass_12 : decode cL_pass 12 = .ok (.astore_n 3, 1) := by decide +kernel
theorem dL_pass_13 : decode cL_pass 13 = .ok (.iconst 1, 1) := by decide +kernel
theorem dL_pass_14 : decode cL_pass 14 = .ok (.ireturn, 1) := by decide +kernel
theorem dL_pass_15 : decode cL_pass 15 = .ok (.iconst 0, 1) := by decide +kernel
theorem dL_pass_16 : decode cL_pass 16 = .ok (.ireturn, 1) := by decide +kernel
theorem dL_settingOf_0 : decode cL_settingOf 0 = .ok (.aload_n 2, 1) := by decide +kernel
theorem dL_settingOf_1 : decode cL_settingOf 1 = .ok (.iconst 0, 1) := by decide +kernel
theorem dL_settingOf_2 : decode cL_settingOf 2 = .ok (.aload_n 0, 1) := by decide +kernel
theorem dL_settingOf_3 : decode cL_settingOf 3 = .ok (.iload_n 1, 1) := by decide +kernel
theorem dL_settingOf_4 : decode cL_settingOf 4 = .ok (.invokevirtual 33, 3) := by decide +kernel
theorem dL_settingOf_7 : decode cL_settingOf 7 = .ok (.i2l, 1) := by decide +kernel
theorem dL_settingOf_8 : decode cL_settingOf 8 = .ok (.lastore, 1) := by decide +kernel
theorem dL_settingOf_9 : decode cL_settingOf 9 = .ok (.goto 6, 3) := by decide +kernel
theorem dL_settingOf_12 : decode cL_settingOf 12 = .ok (.astore_n 3, 1) := by decide +kernel
theorem dL_settingOf_13 : decode cL_settingOf 13 = .ok (.iconst 1, 1) := by decide +kernel
theorem dL_settingOf_14 : decode cL_settingOf 14 = .ok (.ireturn, 1) := by decide +kernel
theorem dL_settingOf_15 : decode cL_settingOf 15 = .ok (.iconst 0, 1) := by decide +kernel
theorem dL_settingOf_16 : decode cL_settingOf 16 = .ok (.ireturn, 1) := by decide +kernel
theorem dL_heatOn_0 : decode cL_heatOn 0 = .ok (.aload_n 2, 1) := by decide +kernel
theorem dL_heatOn_1 : decode cL_heatOn 1 = .ok (.iconst 0, 1) := by decide +kernel
theorem dL_heatOn_2 : decode cL_heatOn 2 = .ok (.aload_n 0, 1) := by decide +kernel
theorem dL_heatOn_3 : decode cL_heatOn 3 = .ok (.iload_n 1, 1) := by decide +kernel
theorem dL_heatOn_4 : decode cL_heatOn 4 = .ok (.invokevirtual 36, 3) := by decide +kernel
theorem dL_heatOn_7 : decode cL_heatOn 7 = .ok (.i2l, 1) := by decide +kernel
theorem dL_heatOn_8 : decode cL_heatOn 8 = .ok (.lastore, 1) := by decide +kernel
theorem dL_heatOn_9 : decode cL_heatOn 9 = .ok (.goto 6, 3) := by decide +kernel
theorem dL_heatOn_12 : decode cL_heatOn 12 = .ok (.astore_n 3, 1) := by decide +kernel
theorem dL_heatOn_13 : decode cL_heatOn 13 = .ok (.iconst 1, 1) := by decide +kernel
theorem dL_heatOn_14 : decode cL_heatOn 14 = .ok (.ireturn, 1) := by decide +kernel
theorem dL_heatOn_15 : decode cL_heatOn 15 = .ok (.iconst 0, 1) := by decide +kernel
theorem dL_heatOn_16 : decode cL_heatOn 16 = .ok (.ireturn, 1) := by decide +kernel
theorem dL_promisesOn_0 : decode cL_promisesOn 0 = .ok (.aload_n 2, 1) := by decide +kernel
theorem dL_promisesOn_1 : decode cL_promisesOn 1 = .ok (.iconst 0, 1) := by decide +kernel
theorem dL_promisesOn_2 : decode cL_promisesOn 2 = .ok (.aload_n 0, 1) := by decide +kernel
theorem dL_promisesOn_3 : decode cL_promisesOn 3 = .ok (.iload_n 1, 1) := by decide +kernel
theorem dL_promisesOn_4 : decode cL_promisesOn 4 = .ok (.invokevirtual 39, 3) := by decide +kernel
theorem dL_promisesOn_7 : decode cL_promisesOn 7 = .ok (.i2l, 1) := by decide +kernel
theorem dL_promisesOn_8 : decode cL_promisesOn 8 = .ok (.lastore, 1) := by decide +kernel
theorem dL_promisesOn_9 : decode cL_promisesOn 9 = .ok (.goto 6, 3) := by decide +kernel
theorem dL_promisesOn_12 : decode cL_promisesOn 12 = .ok (.astore_n 3, 1) := by decide +kernel
theorem dL_promisesOn_13 : decode cL_promisesOn 13 = .ok (.iconst 1, 1) := by decide +kernel
theorem dL_promisesOn_14 : decode cL_promisesOn 14 = .ok (.ireturn, 1) := by decide +kernel
theorem dL_promisesOn_15 : decode cL_promisesOn 15 = .ok (.iconst 0, 1) := by decide +kernel
theorem dL_promisesOn_16 : decode cL_promisesOn 16 = .ok (.ireturn, 1) := by decide +kernel
theorem dL_makerOf_0 : decode cL_makerOf 0 = .ok (.aload_n 2, 1) := by decide +kernel
theorem dL_makerOf_1 : decode cL_makerOf 1 = .ok (.iconst 0, 1) := by decide +kernel
theorem dL_makerOf_2 : decode cL_makerOf 2 = .ok (.aload_n 0, 1) := by decide +kernel
theorem dL_makerOf_3 : decode cL_makerOf 3 = .ok (.iload_n 1, 1) := by decide +kernel
theorem dL_makerOf_4 : decode cL_makerOf 4 = .ok (.invokevirtual 42, 3) := by decide +kernel
theorem dL_makerOf_7 : decode cL_makerOf 7 = .ok (.i2l, 1) := by decide +kernel
theorem dL_makerOf_8 : decode cL_makerOf 8 = .ok (.lastore, 1) := by decide +kernel
theorem dL_makerOf_9 : decode cL_makerOf 9 = .ok (.goto 6, 3) := by decide +kernel
theorem dL_makerOf_12 : decode cL_makerOf 12 = .ok (.astore_n 3, 1) := by decide +kernel
theorem dL_makerOf_13 : decode cL_makerOf 13 = .ok (.iconst 1, 1) := by decide +kernel
theorem dL_makerOf_14 : decode cL_makerOf 14 = .ok (.ireturn, 1) := by decide +kernel
theorem dL_makerOf_15 : decode cL_makerOf 15 = .ok (.iconst 0, 1) := by decide +kernel
theorem dL_makerOf_16 : decode cL_makerOf 16 = .ok (.ireturn, 1) := by decide +kernel
theorem dL_shelfOf_0 : decode cL_shelfOf 0 = .ok (.aload_n 2, 1) := by decide +kernel
theorem dL_shelfOf_1 : decode cL_shelfOf 1 = .ok (.iconst 0, 1) := by decide +kernel
theorem dL_shelfOf_2 : decode cL_shelfOf 2 = .ok (.aload_n 0, 1) := by decide +kernel
theorem dL_shelfOf_3 : decode cL_shelfOf 3 = .ok (.iload_n 1, 1) := by decide +kernel
theorem dL_shelfOf_4 : decode cL_shelfOf 4 = .ok (.invokevirtual 45, 3) := by decide +kernel
theorem dL_shelfOf_7 : decode cL_shelfOf 7 = .ok (.i2l, 1) := by decide +kernel
theorem dL_shelfOf_8 : decode cL_shelfOf 8 = .ok (.lastore, 1) := by decide +kernel
theorem dL_shelfOf_9 : decode cL_shelfOf 9 = .ok (.goto 6, 3) := by decide +kernel
theorem dL_shelfOf_12 : decode cL_shelfOf 12 = .ok (.astore_n 3, 1) := by decide +kernel
theorem dL_shelfOf_13 : decode cL_shelfOf 13 = .ok (.iconst 1, 1) := by decide +kernel
theorem dL_shelfOf_14 : decode cL_shelfOf 14 = .ok (.ireturn, 1) := by decide +kernel
theorem dL_shelfOf_15 : decode cL_shelfOf 15 = .ok (.iconst 0, 1) := by decide +kernel
theorem dL_shelfOf_16 : decode cL_shelfOf 16 = .ok (.ireturn, 1) := by decide +kernel
theorem dL_heatOf_0 : decode cL_heatOf 0 = .ok (.aload_n 2, 1) := by decide +kernel
theorem dL_heatOf_1 : decode cL_heatOf 1 = .ok (.iconst 0, 1) := by decide +kernel
theorem dL_heatOf_2 : decode cL_heatOf 2 = .ok (.aload_n 0, 1) := by decide +kernel
theorem dL_heatOf_3 : decode cL_heatOf 3 = .ok (.iload_n 1, 1) := by decide +kernel
theorem dL_heatOf_4 : decode cL_heatOf 4 = .ok (.invokevirtual 48, 3) := by decide +kernel
theorem dL_heatOf_7 : decode cL_heatOf 7 = .ok (.i2l, 1) := by decide +kernel
theorem dL_heatOf_8 : decode cL_heatOf 8 = .ok (.lastore, 1) := by decide +kernel
theorem dL_heatOf_9 : decode cL_heatOf 9 = .ok (.goto 6, 3) := by decide +kernel
theorem dL_heatOf_12 : decode cL_heatOf 12 = .ok (.astore_n 3, 1) := by decide +kernel
theorem dL_heatOf_13 : decode cL_heatOf 13 = .ok (.iconst 1, 1) := by decide +kernel
theorem dL_heatOf_14 : decode cL_heatOf 14 = .ok (.ireturn, 1) := by decide +kernel
theorem dL_heatOf_15 : decode cL_heatOf 15 = .ok (.iconst 0, 1) := by decide +kernel
theorem dL_heatOf_16 : decode cL_heatOf 16 = .ok (.ireturn, 1) := by decide +kernel
theorem dL_ageOf_0 : decode cL_ageOf 0 = .ok (.aload_n 2, 1) := by decide +kernel
theorem dL_ageOf_1 : decode cL_ageOf 1 = .ok (.iconst 0, 1) := by decide +kernel
theorem dL_ageOf_2 : decode cL_ageOf 2 = .ok (.aload_n 0, 1) := by decide +kernel
theorem dL_ageOf_3 : decode cL_ageOf 3 = .ok (.iload_n 1, 1) := by decide +kernel
theorem dL_ageOf_4 : decode cL_ageOf 4 = .ok (.invokevirtual 51, 3) := by decide +kernel
theorem dL_ageOf_7 : decode cL_ageOf 7 = .ok (.i2l, 1) := by decide +kernel
theorem dL_ageOf_8 : decode cL_ageOf 8 = .ok (.lastore, 1) := by decide +kernel
theorem dL_ageOf_9 : decode cL_ageOf 9 = .ok (.goto 6, 3) := by decide +kernel
theorem dL_ageOf_12 : decode cL_ageOf 12 = .ok (.astore_n 3, 1) := by decide +kernel
theorem dL_ageOf_13 : decode cL_ageOf 13 = .ok (.iconst 1, 1) := by decide +kernel
theorem dL_ageOf_14 : decode cL_ageOf 14 = .ok (.ireturn, 1) := by decide +kernel
theorem dL_ageOf_15 : decode cL_ageOf 15 = .ok (.iconst 0, 1) := by decide +kernel
theorem dL_ageOf_16 : decode cL_ageOf 16 = .ok (.ireturn, 1) := by decide +kernel
theorem dL_hoursLeft_0 : decode cL_hoursLeft 0 = .ok (.aload_n 2, 1) := by decide +kernel
theorem dL_hoursLeft_1 : decode cL_hoursLeft 1 = .ok (.iconst 0, 1) := by decide +kernel
theorem dL_hoursLeft_2 : decode cL_hoursLeft 2 = .ok (.aload_n 0, 1) := by decide +kernel
theorem dL_hoursLeft_3 : decode cL_hoursLeft 3 = .ok (.iload_n 1, 1) := by decide +kernel
theorem dL_hoursLeft_4 : decode cL_hoursLeft 4 = .ok (.invokevirtual 54, 3) := by decide +kernel
theorem dL_hoursLeft_7 : decode cL_hoursLeft 7 = .ok (.i2l, 1) := by decide +kernel
theorem dL_hoursLeft_8 : decode cL_hoursLeft 8 = .ok (.lastore, 1) := by decide +kernel
theorem dL_hoursLeft_9 : decode cL_hoursLeft 9 = .ok (.goto 6, 3) := by decide +kernel
theorem dL_hoursLeft_12 : decode cL_hoursLeft 12 = .ok (.astore_n 3, 1) := by decide +kernel
theorem dL_hoursLeft_13 : decode cL_hoursLeft 13 = .ok (.iconst 1, 1) := by decide +kernel
theorem dL_hoursLeft_14 : decode cL_hoursLeft 14 = .ok (.ireturn, 1) := by decide +kernel
theorem dL_hoursLeft_15 : decode cL_hoursLeft 15 = .ok (.iconst 0, 1) := by decide +kernel
theorem dL_hoursLeft_16 : decode cL_hoursLeft 16 = .ok (.ireturn, 1) := by decide +kernel
theorem dL_isFrozen_0 : decode cL_isFrozen 0 = .ok (.aload_n 2, 1) := by decide +kernel
theorem dL_isFrozen_1 : decode cL_isFrozen 1 = .ok (.iconst 0, 1) := by decide +kernel
theorem dL_isFrozen_2 : decode cL_isFrozen 2 = .ok (.aload_n 0, 1) := by decide +kernel
theorem dL_isFrozen_3 : decode cL_isFrozen 3 = .ok (.iload_n 1, 1) := by decide +kernel
theorem dL_isFrozen_4 : decode cL_isFrozen 4 = .ok (.invokevirtual 57, 3) := by decide +kernel
theorem dL_isFrozen_7 : decode cL_isFrozen 7 = .ok (.ifCond .eq 7, 3) := by decide +kernel
theorem dL_isFrozen_10 : decode cL_isFrozen 10 = .ok (.lconst 1, 1) := by decide +kernel
theorem dL_isFrozen_11 : decode cL_isFrozen 11 = .ok (.goto 4, 3) := by decide +kernel
theorem dL_isFrozen_14 : decode cL_isFrozen 14 = .ok (.lconst 0, 1) := by decide +kernel
theorem dL_isFrozen_15 : decode cL_isFrozen 15 = .ok (.lastore, 1) := by decide +kernel
theorem dL_isFrozen_16 : decode cL_isFrozen 16 = .ok (.goto 6, 3) := by decide +kernel
theorem dL_isFrozen_19 : decode cL_isFrozen 19 = .ok (.astore_n 3, 1) := by decide +kernel
theorem dL_isFrozen_20 : decode cL_isFrozen 20 = .ok (.iconst 1, 1) := by decide +kernel
theorem dL_isFrozen_21 : decode cL_isFrozen 21 = .ok (.ireturn, 1) := by decide +kernel
theorem dL_isFrozen_22 : decode cL_isFrozen 22 = .ok (.iconst 0, 1) := by decide +kernel
theorem dL_isFrozen_23 : decode cL_isFrozen 23 = .ok (.ireturn, 1) := by decide +kernel
theorem dL_isThawed_0 : decode cL_isThawed 0 = .ok (.aload_n 2, 1) := by decide +kernel
theorem dL_isThawed_1 : decode cL_isThawed 1 = .ok (.iconst 0, 1) := by decide +kernel
theorem dL_isThawed_2 : decode cL_isThawed 2 = .ok (.aload_n 0, 1) := by decide +kernel
theorem dL_isThawed_3 : decode cL_isThawed 3 = .ok (.iload_n 1, 1) := by decide +kernel
theorem dL_isThawed_4 : decode cL_isThawed 4 = .ok (.invokevirtual 61, 3) := by decide +kernel
theorem dL_isThawed_7 : decode cL_isThawed 7 = .ok (.ifCond .eq 7, 3) := by decide +kernel
theorem dL_isThawed_10 : decode cL_isThawed 10 = .ok (.lconst 1, 1) := by decide +kernel
theorem dL_isThawed_11 : decode cL_isThawed 11 = .ok (.goto 4, 3) := by decide +kernel
theorem dL_isThawed_14 : decode cL_isThawed 14 = .ok (.lconst 0, 1) := by decide +kernel
theorem dL_isThawed_15 : decode cL_isThawed 15 = .ok (.lastore, 1) := by decide +kernel
theorem dL_isThawed_16 : decode cL_isThawed 16 = .ok (.goto 6, 3) := by decide +kernel
theorem dL_isThawed_19 : decode cL_isThawed 19 = .ok (.astore_n 3, 1) := by decide +kernel
theorem dL_isThawed_20 : decode cL_isThawed 20 = .ok (.iconst 1, 1) := by decide +kernel
theorem dL_isThawed_21 : decode cL_isThawed 21 = .ok (.ireturn, 1) := by decide +kernel
theorem dL_isThawed_22 : decode cL_isThawed 22 = .ok (.iconst 0, 1) := by decide +kernel
theorem dL_isThawed_23 : decode cL_isThawed 23 = .ok (.ireturn, 1) := by decide +kernel
theorem dL_isKept_0 : decode cL_isKept 0 = .ok (.aload_n 2, 1) := by decide +kernel
theorem dL_isKept_1 : decode cL_isKept 1 = .ok (.iconst 0, 1) := by decide +kernel
theorem dL_isKept_2 : decode cL_isKept 2 = .ok (.aload_n 0, 1) := by decide +kernel
theorem dL_isKept_3 : decode cL_isKept 3 = .ok (.iload_n 1, 1) := by decide +kernel
theorem dL_isKept_4 : decode cL_isKept 4 = .ok (.invokevirtual 64, 3) := by decide +kernel
theorem dL_isKept_7 : decode cL_isKept 7 = .ok (.ifCond .eq 7, 3) := by decide +kernel
theorem dL_isKept_10 : decode cL_isKept 10 = .ok (.lconst 1, 1) := by decide +kernel
theorem dL_isKept_11 : decode cL_isKept 11 = .ok (.goto 4, 3) := by decide +kernel
theorem dL_isKept_14 : decode cL_isKept 14 = .ok (.lconst 0, 1) := by decide +kernel
theorem dL_isKept_15 : decode cL_isKept 15 = .ok (.lastore, 1) := by decide +kernel
theorem dL_isKept_16 : decode cL_isKept 16 = .ok (.goto 6, 3) := by decide +kernel
theorem dL_isKept_19 : decode cL_isKept 19 = .ok (.astore_n 3, 1) := by decide +kernel
theorem dL_isKept_20 : decode cL_isKept 20 = .ok (.iconst 1, 1) := by decide +kernel
theorem dL_isKept_21 : decode cL_isKept 21 = .ok (.ireturn, 1) := by decide +kernel
theorem dL_isKept_22 : decode cL_isKept 22 = .ok (.iconst 0, 1) := by decide +kernel
theorem dL_isKept_23 : decode cL_isKept 23 = .ok (.ireturn, 1) := by decide +kernel
theorem dL_isExpired_0 : decode cL_isExpired 0 = .ok (.aload_n 2, 1) := by decide +kernel
theorem dL_isExpired_1 : decode cL_isExpired 1 = .ok (.iconst 0, 1) := by decide +kernel
theorem dL_isExpired_2 : decode cL_isExpired 2 = .ok (.aload_n 0, 1) := by decide +kernel
theorem dL_isExpired_3 : decode cL_isExpired 3 = .ok (.iload_n 1, 1) := by decide +kernel
theorem dL_isExpired_4 : decode cL_isExpired 4 = .ok (.invokevirtual 67, 3) := by decide +kernel
theorem dL_isExpired_7 : decode cL_isExpired 7 = .ok (.ifCond .eq 7, 3) := by decide +kernel
theorem dL_isExpired_10 : decode cL_isExpired 10 = .ok (.lconst 1, 1) := by decide +kernel
theorem dL_isExpired_11 : decode cL_isExpired 11 = .ok (.goto 4, 3) := by decide +kernel
theorem dL_isExpired_14 : decode cL_isExpired 14 = .ok (.lconst 0, 1) := by decide +kernel
theorem dL_isExpired_15 : decode cL_isExpired 15 = .ok (.lastore, 1) := by decide +kernel
theorem dL_isExpired_16 : decode cL_isExpired 16 = .ok (.goto 6, 3) := by decide +kernel
theorem dL_isExpired_19 : decode cL_isExpired 19 = .ok (.astore_n 3, 1) := by decide +kernel
theorem dL_isExpired_20 : decode cL_isExpired 20 = .ok (.iconst 1, 1) := by decide +kernel
theorem dL_isExpired_21 : decode cL_isExpired 21 = .ok (.ireturn, 1) := by decide +kernel
theorem dL_isExpired_22 : decode cL_isExpired 22 = .ok (.iconst 0, 1) := by decide +kernel
theorem dL_isExpired_23 : decode cL_isExpired 23 = .ok (.ireturn, 1) := by decide +kernel
theorem dL_owedBy_0 : decode cL_owedBy 0 = .ok (.aload_n 2, 1) := by decide +kernel
theorem dL_owedBy_1 : decode cL_owedBy 1 = .ok (.iconst 0, 1) := by decide +kernel
theorem dL_owedBy_2 : decode cL_owedBy 2 = .ok (.aload_n 0, 1) := by decide +kernel
theorem dL_owedBy_3 : decode cL_owedBy 3 = .ok (.iload_n 1, 1) := by decide +kernel
theorem dL_owedBy_4 : decode cL_owedBy 4 = .ok (.invokevirtual 70, 3) := by decide +kernel
theorem dL_owedBy_7 : decode cL_owedBy 7 = .ok (.i2l, 1) := by decide +kernel
theorem dL_owedBy_8 : decode cL_owedBy 8 = .ok (.lastore, 1) := by decide +kernel
theorem dL_owedBy_9 : decode cL_owedBy 9 = .ok (.goto 6, 3) := by decide +kernel
theorem dL_owedBy_12 : decode cL_owedBy 12 = .ok (.astore_n 3, 1) := by decide +kernel
theorem dL_owedBy_13 : decode cL_owedBy 13 = .ok (.iconst 1, 1) := by decide +kernel
theorem dL_owedBy_14 : decode cL_owedBy 14 = .ok (.ireturn, 1) := by decide +kernel
theorem dL_owedBy_15 : decode cL_owedBy 15 = .ok (.iconst 0, 1) := by decide +kernel
theorem dL_owedBy_16 : decode cL_owedBy 16 = .ok (.ireturn, 1) := by decide +kernel
theorem dL_honourOf_0 : decode cL_honourOf 0 = .ok (.aload_n 2, 1) := by decide +kernel
theorem dL_honourOf_1 : decode cL_honourOf 1 = .ok (.iconst 0, 1) := by decide +kernel
theorem dL_honourOf_2 : decode cL_honourOf 2 = .ok (.aload_n 0, 1) := by decide +kernel
theorem dL_honourOf_3 : decode cL_honourOf 3 = .ok (.iload_n 1, 1) := by decide +kernel
theorem dL_honourOf_4 : decode cL_honourOf 4 = .ok (.invokevirtual 73, 3) := by decide +kernel
theorem dL_honourOf_7 : decode cL_honourOf 7 = .ok (.i2l, 1) := by decide +kernel
theorem dL_honourOf_8 : decode cL_honourOf 8 = .ok (.lastore, 1) := by decide +kernel
theorem dL_honourOf_9 : decode cL_honourOf 9 = .ok (.goto 6, 3) := by decide +kernel
theorem dL_honourOf_12 : decode cL_honourOf 12 = .ok (.astore_n 3, 1) := by decide +kernel
theorem dL_honourOf_13 : decode cL_honourOf 13 = .ok (.iconst 1, 1) := by decide +kernel
theorem dL_honourOf_14 : decode cL_honourOf 14 = .ok (.ireturn, 1) := by decide +kernel
theorem dL_honourOf_15 : decode cL_honourOf 15 = .ok (.iconst 0, 1) := by decide +kernel
theorem dL_honourOf_16 : decode cL_honourOf 16 = .ok (.ireturn, 1) := by decide +kernel
theorem dL_hoursUntilFrozen_0 : decode cL_hoursUntilFrozen 0 = .ok (.aload_n 2, 1) := by decide +kernel
theorem dL_hoursUntilFrozen_1 : decode cL_hoursUntilFrozen 1 = .ok (.iconst 0, 1) := by decide +kernel
theorem dL_hoursUntilFrozen_2 : decode cL_hoursUntilFrozen 2 = .ok (.aload_n 0, 1) := by decide +kernel
theorem dL_hoursUntilFrozen_3 : decode cL_hoursUntilFrozen 3 = .ok (.iload_n 1, 1) := by decide +kernel
theorem dL_hoursUntilFrozen_4 : decode cL_hoursUntilFrozen 4 = .ok (.invokevirtual 76, 3) := by decide +kernel
theorem dL_hoursUntilFrozen_7 : decode cL_hoursUntilFrozen 7 = .ok (.i2l, 1) := by decide +kernel
theorem dL_hoursUntilFrozen_8 : decode cL_hoursUntilFrozen 8 = .ok (.lastore, 1) := by decide +kernel
theorem dL_hoursUntilFrozen_9 : decode cL_hoursUntilFrozen 9 = .ok (.goto 6, 3) := by decide +kernel
theorem dL_hoursUntilFrozen_12 : decode cL_hoursUntilFrozen 12 = .ok (.astore_n 3, 1) := by decide +kernel
theorem dL_hoursUntilFrozen_13 : decode cL_hoursUntilFrozen 13 = .ok (.iconst 1, 1) := by decide +kernel
theorem dL_hoursUntilFrozen_14 : decode cL_hoursUntilFrozen 14 = .ok (.ireturn, 1) := by decide +kernel
theorem dL_hoursUntilFrozen_15 : decode cL_hoursUntilFrozen 15 = .ok (.iconst 0, 1) := by decide +kernel
theorem dL_hoursUntilFrozen_16 : decode cL_hoursUntilFrozen 16 = .ok (.ireturn, 1) := by decide +kernel
theorem dL_hoursUntilThawed_0 : decode cL_hoursUntilThawed 0 = .ok (.aload_n 2, 1) := by decide +kernel
theorem dL_hoursUntilThawed_1 : decode cL_hoursUntilThawed 1 = .ok (.iconst 0, 1) := by decide +kernel
theorem dL_hoursUntilThawed_2 : decode cL_hoursUntilThawed 2 = .ok (.aload_n 0, 1) := by decide +kernel
theorem dL_hoursUntilThawed_3 : decode cL_hoursUntilThawed 3 = .ok (.iload_n 1, 1) := by decide +kernel
theorem dL_hoursUntilThawed_4 : decode cL_hoursUntilThawed 4 = .ok (.invokevirtual 79, 3) := by decide +kernel
theorem dL_hoursUntilThawed_7 : decode cL_hoursUntilThawed 7 = .ok (.i2l, 1) := by decide +kernel
theorem dL_hoursUntilThawed_8 : decode cL_hoursUntilThawed 8 = .ok (.lastore, 1) := by decide +kernel
theorem dL_hoursUntilThawed_9 : decode cL_hoursUntilThawed 9 = .ok (.goto 6, 3) := by decide +kernel
theorem dL_hoursUntilThawed_12 : decode cL_hoursUntilThawed 12 = .ok (.astore_n 3, 1) := by decide +kernel
theorem dL_hoursUntilThawed_13 : decode cL_hoursUntilThawed 13 = .ok (.iconst 1, 1) := by decide +kernel
theorem dL_hoursUntilThawed_14 : decode cL_hoursUntilThawed 14 = .ok (.ireturn, 1) := by decide +kernel
theorem dL_hoursUntilThawed_15 : decode cL_hoursUntilThawed 15 = .ok (.iconst 0, 1) := by decide +kernel
theorem dL_hoursUntilThawed_16 : decode cL_hoursUntilThawed 16 = .ok (.ireturn, 1) := by decide +kernel
theorem dL_hoursUntilExpired_0 : decode cL_hoursUntilExpired 0 = .ok (.aload_n 2, 1) := by decide +kernel
theorem dL_hoursUntilExpired_1 : decode cL_hoursUntilExpired 1 = .ok (.iconst 0, 1) := by decide +kernel
theorem dL_hoursUntilExpired_2 : decode cL_hoursUntilExpired 2 = .ok (.aload_n 0, 1) := by decide +kernel
theorem dL_hoursUntilExpired_3 : decode cL_hoursUntilExpired 3 = .ok (.iload_n 1, 1) := by decide +kernel
theorem dL_hoursUntilExpired_4 : decode cL_hoursUntilExpired 4 = .ok (.invokevirtual 82, 3) := by decide +kernel
theorem dL_hoursUntilExpired_7 : decode cL_hoursUntilExpired 7 = .ok (.i2l, 1) := by decide +kernel
theorem dL_hoursUntilExpired_8 : decode cL_hoursUntilExpired 8 = .ok (.lastore, 1) := by decide +kernel
theorem dL_hoursUntilExpired_9 : decode cL_hoursUntilExpired 9 = .ok (.goto 6, 3) := by decide +kernel
theorem dL_hoursUntilExpired_12 : decode cL_hoursUntilExpired 12 = .ok (.astore_n 3, 1) := by decide +kernel
theorem dL_hoursUntilExpired_13 : decode cL_hoursUntilExpired 13 = .ok (.iconst 1, 1) := by decide +kernel
theorem dL_hoursUntilExpired_14 : decode cL_hoursUntilExpired 14 = .ok (.ireturn, 1) := by decide +kernel
theorem dL_hoursUntilExpired_15 : decode cL_hoursUntilExpired 15 = .ok (.iconst 0, 1) := by decide +kernel
theorem dL_hoursUntilExpired_16 : decode cL_hoursUntilExpired 16 = .ok (.ireturn, 1) := by decide +kernel
theorem dL_leftIn_0 : decode cL_leftIn 0 = .ok (.aload_n 2, 1) := by decide +kernel
theorem dL_leftIn_1 : decode cL_leftIn 1 = .ok (.iconst 0, 1) := by decide +kernel
theorem dL_leftIn_2 : decode cL_leftIn 2 = .ok (.aload_n 0, 1) := by decide +kernel
theorem dL_leftIn_3 : decode cL_leftIn 3 = .ok (.iload_n 1, 1) := by decide +kernel
theorem dL_leftIn_4 : decode cL_leftIn 4 = .ok (.invokevirtual 85, 3) := by decide +kernel
theorem dL_leftIn_7 : decode cL_leftIn 7 = .ok (.i2l, 1) := by decide +kernel
theorem dL_leftIn_8 : decode cL_leftIn 8 = .ok (.lastore, 1) := by decide +kernel
theorem dL_leftIn_9 : decode cL_leftIn 9 = .ok (.goto 6, 3) := by decide +kernel
theorem dL_leftIn_12 : decode cL_leftIn 12 = .ok (.astore_n 3, 1) := by decide +kernel
theorem dL_leftIn_13 : decode cL_leftIn 13 = .ok (.iconst 1, 1) := by decide +kernel
theorem dL_leftIn_14 : decode cL_leftIn 14 = .ok (.ireturn, 1) := by decide +kernel
theorem dL_leftIn_15 : decode cL_leftIn 15 = .ok (.iconst 0, 1) := by decide +kernel
theorem dL_leftIn_16 : decode cL_leftIn 16 = .ok (.ireturn, 1) := by decide +kernel
theorem dL_law_0 : decode cL_law 0 = .ok (.new 8, 3) := by decide +kernel
theorem dL_law_3 : decode cL_law 3 = .ok (.dup, 1) := by decide +kernel
theorem dL_law_4 : decode cL_law 4 = .ok (.invokespecial 88, 3) := by decide +kernel
theorem dL_law_7 : decode cL_law 7 = .ok (.astore_n 1, 1) := by decide +kernel
theorem dL_law_8 : decode cL_law 8 = .ok (.new 89, 3) := by decide +kernel
theorem dL_law_11 : decode cL_law 11 = .ok (.dup, 1) := by decide +kernel
theorem dL_law_12 : decode cL_law 12 = .ok (.invokespecial 91, 3) := by decide +kernel
theorem dL_law_15 : decode cL_law 15 = .ok (.astore_n 2, 1) := by decide +kernel
theorem dL_law_16 : decode cL_law 16 = .ok (.iconst 1, 1) := by decide +kernel
theorem dL_law_17 : decode cL_law 17 = .ok (.newarray .long, 2) := by decide +kernel
theorem dL_law_19 : decode cL_law 19 = .ok (.astore_n 3, 1) := by decide +kernel
theorem dL_law_20 : decode cL_law 20 = .ok (.iconst 0, 1) := by decide +kernel
theorem dL_law_21 : decode cL_law 21 = .ok (.istore 4, 2) := by decide +kernel
theorem dL_law_23 : decode cL_law 23 = .ok (.iload 4, 2) := by decide +kernel
theorem dL_law_25 : decode cL_law 25 = .ok (.aload_n 0, 1) := by decide +kernel
theorem dL_law_26 : decode cL_law 26 = .ok (.arraylength, 1) := by decide +kernel
theorem dL_law_27 : decode cL_law 27 = .ok (.iconst 4, 1) := by decide +kernel
theorem dL_law_28 : decode cL_law 28 = .ok (.isub, 1) := by decide +kernel
theorem dL_law_29 : decode cL_law 29 = .ok (.if_icmp .gt 1701, 3) := by decide +kernel
theorem dL_law_32 : decode cL_law 32 = .ok (.aload_n 0, 1) := by decide +kernel
theorem dL_law_33 : decode cL_law 33 = .ok (.iload 4, 2) := by decide +kernel
theorem dL_law_35 : decode cL_law 35 = .ok (.iaload, 1) := by decide +kernel
theorem dL_law_36 : decode cL_law 36 = .ok (.bipush 63, 2) := by decide +kernel
theorem dL_law_38 : decode cL_law 38 = .ok (.iand, 1) := by decide +kernel
theorem dL_law_39 : decode cL_law 39 = .ok (.tableswitch 1685 0 33 #[149, 229, 297, 353, 421, 434, 490, 503, 516, 572, 628, 684, 697, 710, 723, 779, 835, 891, 947, 1003, 1066, 1129, 1192, 1255, 1311, 1367, 1380, 1436, 1492, 1548, 1604, 1617, 1630, 1671], 149) := by decide +kernel
theorem dL_law_188 : decode cL_law 188 = .ok (.aload_n 1, 1) := by decide +kernel
theorem dL_law_189 : decode cL_law 189 = .ok (.aload_n 0, 1) := by decide +kernel
theorem dL_law_190 : decode cL_law 190 = .ok (.iload 4, 2) := by decide +kernel
theorem dL_law_192 : decode cL_law 192 = .ok (.iconst 1, 1) := by decide +kernel
theorem dL_law_193 : decode cL_law 193 = .ok (.iadd, 1) := by decide +kernel
theorem dL_law_194 : decode cL_law 194 = .ok (.iaload, 1) := by decide +kernel
theorem dL_law_195 : decode cL_law 195 = .ok (.aload_n 0, 1) := by decide +kernel
theorem dL_law_196 : decode cL_law 196 = .ok (.iload 4, 2) := by decide +kernel
theorem dL_law_198 : decode cL_law 198 = .ok (.iconst 2, 1) := by decide +kernel
theorem dL_law_199 : decode cL_law 199 = .ok (.iadd, 1) := by decide +kernel
theorem dL_law_200 : decode cL_law 200 = .ok (.iaload, 1) := by decide +kernel
theorem dL_law_201 : decode cL_law 201 = .ok (.aload_n 0, 1) := by decide +kernel
theorem dL_law_202 : decode cL_law 202 = .ok (.iload 4, 2) := by decide +kernel
theorem dL_law_204 : decode cL_law 204 = .ok (.iconst 3, 1) := by decide +kernel
theorem dL_law_205 : decode cL_law 205 = .ok (.iadd, 1) := by decide +kernel
theorem dL_law_206 : decode cL_law 206 = .ok (.iaload, 1) := by decide +kernel
theorem dL_law_207 : decode cL_law 207 = .ok (.aload_n 3, 1) := by decide +kernel
theorem dL_law_208 : decode cL_law 208 = .ok (.invokestatic 92, 3) := by decide +kernel
theorem dL_law_211 : decode cL_law 211 = .ok (.istore 5, 2) := by decide +kernel
theorem dL_law_213 : decode cL_law 213 = .ok (.aload_n 2, 1) := by decide +kernel
theorem dL_law_214 : decode cL_law 214 = .ok (.aload_n 0, 1) := by decide +kernel
theorem dL_law_215 : decode cL_law 215 = .ok (.iload 4, 2) := by decide +kernel
theorem dL_law_217 : decode cL_law 217 = .ok (.iconst 1, 1) := by decide +kernel
theorem dL_law_218 : decode cL_law 218 = .ok (.iadd, 1) := by decide +kernel
theorem dL_law_219 : decode cL_law 219 = .ok (.iaload, 1) := by decide +kernel
theorem dL_law_220 : decode cL_law 220 = .ok (.aload_n 0, 1) := by decide +kernel
theorem dL_law_221 : decode cL_law 221 = .ok (.iload 4, 2) := by decide +kernel
theorem dL_law_223 : decode cL_law 223 = .ok (.iconst 2, 1) := by decide +kernel
theorem dL_law_224 : decode cL_law 224 = .ok (.iadd, 1) := by decide +kernel
theorem dL_law_225 : decode cL_law 225 = .ok (.iaload, 1) := by decide +kernel
theorem dL_law_226 : decode cL_law 226 = .ok (.aload_n 0, 1) := by decide +kernel
theorem dL_law_227 : decode cL_law 227 = .ok (.iload 4, 2) := by decide +kernel
theorem dL_law_229 : decode cL_law 229 = .ok (.iconst 3, 1) := by decide +kernel
theorem dL_law_230 : decode cL_law 230 = .ok (.iadd, 1) := by decide +kernel
theorem dL_law_231 : decode cL_law 231 = .ok (.iaload, 1) := by decide +kernel
theorem dL_law_232 : decode cL_law 232 = .ok (.invokevirtual 97, 3) := by decide +kernel
theorem dL_law_235 : decode cL_law 235 = .ok (.istore 6, 2) := by decide +kernel
theorem dL_law_237 : decode cL_law 237 = .ok (.aload_n 2, 1) := by decide +kernel
theorem dL_law_238 : decode cL_law 238 = .ok (.invokevirtual 98, 3) := by decide +kernel
theorem dL_law_241 : decode cL_law 241 = .ok (.iload 5, 2) := by decide +kernel
theorem dL_law_243 : decode cL_law 243 = .ok (.if_icmp .eq 5, 3) := by decide +kernel
theorem dL_law_246 : decode cL_law 246 = .ok (.iconst 0, 1) := by decide +kernel
theorem dL_law_247 : decode cL_law 247 = .ok (.ireturn, 1) := by decide +kernel
theorem dL_law_248 : decode cL_law 248 = .ok (.iload 5, 2) := by decide +kernel
theorem dL_law_250 : decode cL_law 250 = .ok (.ifCond .ne 15, 3) := by decide +kernel
theorem dL_law_253 : decode cL_law 253 = .ok (.aload_n 3, 1) := by decide +kernel
theorem dL_law_254 : decode cL_law 254 = .ok (.iconst 0, 1) := by decide +kernel
theorem dL_law_255 : decode cL_law 255 = .ok (.laload, 1) := by decide +kernel
theorem dL_law_256 : decode cL_law 256 = .ok (.iload 6, 2) := by decide +kernel
theorem dL_law_258 : decode cL_law 258 = .ok (.i2l, 1) := by decide +kernel
theorem dL_law_259 : decode cL_law 259 = .ok (.lcmp, 1) := by decide +kernel
theorem dL_law_260 : decode cL_law 260 = .ok (.ifCond .eq 5, 3) := by decide +kernel
theorem dL_law_263 : decode cL_law 263 = .ok (.iconst 0, 1) := by decide +kernel
theorem dL_law_264 : decode cL_law 264 = .ok (.ireturn, 1) := by decide +kernel
theorem dL_law_265 : decode cL_law 265 = .ok (.goto 1459, 3) := by decide +kernel
theorem dL_law_268 : decode cL_law 268 = .ok (.aload_n 1, 1) := by decide +kernel
theorem dL_law_269 : decode cL_law 269 = .ok (.aload_n 0, 1) := by decide +kernel
theorem dL_law_270 : decode cL_law 270 = .ok (.iload 4, 2) := by decide +kernel
theorem dL_law_272 : decode cL_law 272 = .ok (.iconst 1, 1) := by decide +kernel
theorem dL_law_273 : decode cL_law 273 = .ok (.iadd, 1) := by decide +kernel
theorem dL_law_274 : decode cL_law 274 = .ok (.iaload, 1) := by decide +kernel
theorem dL_law_275 : decode cL_law 275 = .ok (.aload_n 0, 1) := by decide +kernel
theorem dL_law_276 : decode cL_law 276 = .ok (.iload 4, 2) := by decide +kernel
theorem dL_law_278 : decode cL_law 278 = .ok (.iconst 2, 1) := by decide +kernel
theorem dL_law_279 : decode cL_law 279 = .ok (.iadd, 1) := by decide +kernel
theorem dL_law_280 : decode cL_law 280 = .ok (.iaload, 1) := by decide +kernel
theorem dL_law_281 : decode cL_law 281 = .ok (.aload_n 3, 1) := by decide +kernel
theorem dL_law_282 : decode cL_law 282 = .ok (.invokestatic 102, 3) := by decide +kernel
theorem dL_law_285 : decode cL_law 285 = .ok (.istore 5, 2) := by decide +kernel
theorem dL_law_287 : decode cL_law 287 = .ok (.aload_n 2, 1) := by decide +kernel
theorem dL_law_288 : decode cL_law 288 = .ok (.aload_n 0, 1) := by decide +kernel
theorem dL_law_289 : decode cL_law 289 = .ok (.iload 4, 2) := by decide +kernel
theorem dL_law_291 : decode cL_law 291 = .ok (.iconst 1, 1) := by decide +kernel
theorem dL_law_292 : decode cL_law 292 = .ok (.iadd, 1) := by decide +kernel
theorem dL_law_293 : decode cL_law 293 = .ok (.iaload, 1) := by decide +kernel
theorem dL_law_294 : decode cL_law 294 = .ok (.aload_n 0, 1) := by decide +kernel
theorem dL_law_295 : decode cL_law 295 = .ok (.iload 4, 2) := by decide +kernel
theorem dL_law_297 : decode cL_law 297 = .ok (.iconst 2, 1) := by decide +kernel
theorem dL_law_298 : decode cL_law 298 = .ok (.iadd, 1) := by decide +kernel
theorem dL_law_299 : decode cL_law 299 = .ok (.iaload, 1) := by decide +kernel
theorem dL_law_300 : decode cL_law 300 = .ok (.invokevirtual 105, 3) := by decide +kernel
theorem dL_law_303 : decode cL_law 303 = .ok (.istore 6, 2) := by decide +kernel
theorem dL_law_305 : decode cL_law 305 = .ok (.aload_n 2, 1) := by decide +kernel
theorem dL_law_306 : decode cL_law 306 = .ok (.invokevirtual 98, 3) := by decide +kernel
theorem dL_law_309 : decode cL_law 309 = .ok (.iload 5, 2) := by decide +kernel
theorem dL_law_311 : decode cL_law 311 = .ok (.if_icmp .eq 5, 3) := by decide +kernel
theorem dL_law_314 : decode cL_law 314 = .ok (.iconst 0, 1) := by decide +kernel
theorem dL_law_315 : decode cL_law 315 = .ok (.ireturn, 1) := by decide +kernel
theorem dL_law_316 : decode cL_law 316 = .ok (.iload 5, 2) := by decide +kernel
theorem dL_law_318 : decode cL_law 318 = .ok (.ifCond .ne 15, 3) := by decide +kernel
theorem dL_law_321 : decode cL_law 321 = .ok (.aload_n 3, 1) := by decide +kernel
theorem dL_law_322 : decode cL_law 322 = .ok (.iconst 0, 1) := by decide +kernel
theorem dL_law_323 : decode cL_law 323 = .ok (.laload, 1) := by decide +kernel
theorem dL_law_324 : decode cL_law 324 = .ok (.iload 6, 2) := by decide +kernel
theorem dL_law_326 : decode cL_law 326 = .ok (.i2l, 1) := by decide +kernel
theorem dL_law_327 : decode cL_law 327 = .ok (.lcmp, 1) := by decide +kernel
theorem dL_law_328 : decode cL_law 328 = .ok (.ifCond .eq 5, 3) := by decide +kernel
theorem dL_law_331 : decode cL_law 331 = .ok (.iconst 0, 1) := by decide +kernel
theorem dL_law_332 : decode cL_law 332 = .ok (.ireturn, 1) := by decide +kernel
theorem dL_law_333 : decode cL_law 333 = .ok (.goto 1391, 3) := by decide +kernel
theorem dL_law_336 : decode cL_law 336 = .ok (.aload_n 1, 1) := by decide +kernel
theorem dL_law_337 : decode cL_law 337 = .ok (.aload_n 0, 1) := by decide +kernel
theorem dL_law_338 : decode cL_law 338 = .ok (.iload 4, 2) := by decide +kernel
theorem dL_law_340 : decode cL_law 340 = .ok (.iconst 1, 1) := by decide +kernel
theorem dL_law_341 : decode cL_law 341 = .ok (.iadd, 1) := by decide +kernel
theorem dL_law_342 : decode cL_law 342 = .ok (.iaload, 1) := by decide +kernel
theorem dL_law_343 : decode cL_law 343 = .ok (.aload_n 3, 1) := by decide +kernel
theorem dL_law_344 : decode cL_law 344 = .ok (.invokestatic 106, 3) := by decide +kernel
theorem dL_law_347 : decode cL_law 347 = .ok (.istore 5, 2) := by decide +kernel
theorem dL_law_349 : decode cL_law 349 = .ok (.aload_n 2, 1) := by decide +kernel
theorem dL_law_350 : decode cL_law 350 = .ok (.aload_n 0, 1) := by decide +kernel
theorem dL_law_351 : decode cL_law 351 = .ok (.iload 4, 2) := by decide +kernel
theorem dL_law_353 : decode cL_law 353 = .ok (.iconst 1, 1) := by decide +kernel
theorem dL_law_354 : decode cL_law 354 = .ok (.iadd, 1) := by decide +kernel
theorem dL_law_355 : decode cL_law 355 = .ok (.iaload, 1) := by decide +kernel
theorem dL_law_356 : decode cL_law 356 = .ok (.invokevirtual 109, 3) := by decide +kernel
theorem dL_law_359 : decode cL_law 359 = .ok (.istore 6, 2) := by decide +kernel
theorem dL_law_361 : decode cL_law 361 = .ok (.aload_n 2, 1) := by decide +kernel
theorem dL_law_362 : decode cL_law 362 = .ok (.invokevirtual 98, 3) := by decide +kernel
theorem dL_law_365 : decode cL_law 365 = .ok (.iload 5, 2) := by decide +kernel
theorem dL_law_367 : decode cL_law 367 = .ok (.if_icmp .eq 5, 3) := by decide +kernel
theorem dL_law_370 : decode cL_law 370 = .ok (.iconst 0, 1) := by decide +kernel
theorem dL_law_371 : decode cL_law 371 = .ok (.ireturn, 1) := by decide +kernel
theorem dL_law_372 : decode cL_law 372 = .ok (.iload 5, 2) := by decide +kernel
theorem dL_law_374 : decode cL_law 374 = .ok (.ifCond .ne 15, 3) := by decide +kernel
theorem dL_law_377 : decode cL_law 377 = .ok (.aload_n 3, 1) := by decide +kernel
theorem dL_law_378 : decode cL_law 378 = .ok (.iconst 0, 1) := by decide +kernel
theorem dL_law_379 : decode cL_law 379 = .ok (.laload, 1) := by decide +kernel
theorem dL_law_380 : decode cL_law 380 = .ok (.iload 6, 2) := by decide +kernel
theorem dL_law_382 : decode cL_law 382 = .ok (.i2l, 1) := by decide +kernel
theorem dL_law_383 : decode cL_law 383 = .ok (.lcmp, 1) := by decide +kernel
theorem dL_law_384 : decode cL_law 384 = .ok (.ifCond .eq 5, 3) := by decide +kernel
theorem dL_law_387 : decode cL_law 387 = .ok (.iconst 0, 1) := by decide +kernel
theorem dL_law_388 : decode cL_law 388 = .ok (.ireturn, 1) := by decide +kernel
theorem dL_law_389 : decode cL_law 389 = .ok (.goto 1335, 3) := by decide +kernel
theorem dL_law_392 : decode cL_law 392 = .ok (.aload_n 1, 1) := by decide +kernel
theorem dL_law_393 : decode cL_law 393 = .ok (.aload_n 0, 1) := by decide +kernel
theorem dL_law_394 : decode cL_law 394 = .ok (.iload 4, 2) := by decide +kernel
theorem dL_law_396 : decode cL_law 396 = .ok (.iconst 1, 1) := by decide +kernel
theorem dL_law_397 : decode cL_law 397 = .ok (.iadd, 1) := by decide +kernel
theorem dL_law_398 : decode cL_law 398 = .ok (.iaload, 1) := by decide +kernel
theorem dL_law_399 : decode cL_law 399 = .ok (.aload_n 0, 1) := by decide +kernel
theorem dL_law_400 : decode cL_law 400 = .ok (.iload 4, 2) := by decide +kernel
theorem dL_law_402 : decode cL_law 402 = .ok (.iconst 2, 1) := by decide +kernel
theorem dL_law_403 : decode cL_law 403 = .ok (.iadd, 1) := by decide +kernel
theorem dL_law_404 : decode cL_law 404 = .ok (.iaload, 1) := by decide +kernel
theorem dL_law_405 : decode cL_law 405 = .ok (.aload_n 3, 1) := by decide +kernel
theorem dL_law_406 : decode cL_law 406 = .ok (.invokestatic 110, 3) := by decide +kernel
theorem dL_law_409 : decode cL_law 409 = .ok (.istore 5, 2) := by decide +kernel
theorem dL_law_411 : decode cL_law 411 = .ok (.aload_n 2, 1) := by decide +kernel
theorem dL_law_412 : decode cL_law 412 = .ok (.aload_n 0, 1) := by decide +kernel
theorem dL_law_413 : decode cL_law 413 = .ok (.iload 4, 2) := by decide +kernel
theorem dL_law_415 : decode cL_law 415 = .ok (.iconst 1, 1) := by decide +kernel
theorem dL_law_416 : decode cL_law 416 = .ok (.iadd, 1) := by decide +kernel
theorem dL_law_417 : decode cL_law 417 = .ok (.iaload, 1) := by decide +kernel
theorem dL_law_418 : decode cL_law 418 = .ok (.aload_n 0, 1) := by decide +kernel
theorem dL_law_419 : decode cL_law 419 = .ok (.iload 4, 2) := by decide +kernel
theorem dL_law_421 : decode cL_law 421 = .ok (.iconst 2, 1) := by decide +kernel
theorem dL_law_422 : decode cL_law 422 = .ok (.iadd, 1) := by decide +kernel
theorem dL_law_423 : decode cL_law 423 = .ok (.iaload, 1) := by decide +kernel
theorem dL_law_424 : decode cL_law 424 = .ok (.invokevirtual 112, 3) := by decide +kernel
theorem dL_law_427 : decode cL_law 427 = .ok (.istore 6, 2) := by decide +kernel
theorem dL_law_429 : decode cL_law 429 = .ok (.aload_n 2, 1) := by decide +kernel
theorem dL_law_430 : decode cL_law 430 = .ok (.invokevirtual 98, 3) := by decide +kernel
theorem dL_law_433 : decode cL_law 433 = .ok (.iload 5, 2) := by decide +kernel
theorem dL_law_435 : decode cL_law 435 = .ok (.if_icmp .eq 5, 3) := by decide +kernel
theorem dL_law_438 : decode cL_law 438 = .ok (.iconst 0, 1) := by decide +kernel
theorem dL_law_439 : decode cL_law 439 = .ok (.ireturn, 1) := by decide +kernel
theorem dL_law_440 : decode cL_law 440 = .ok (.iload 5, 2) := by decide +kernel
theorem dL_law_442 : decode cL_law 442 = .ok (.ifCond .ne 15, 3) := by decide +kernel
theorem dL_law_445 : decode cL_law 445 = .ok (.aload_n 3, 1) := by decide +kernel
theorem dL_law_446 : decode cL_law 446 = .ok (.iconst 0, 1) := by decide +kernel
theorem dL_law_447 : decode cL_law 447 = .ok (.laload, 1) := by decide +kernel
theorem dL_law_448 : decode cL_law 448 = .ok (.iload 6, 2) := by decide +kernel
theorem dL_law_450 : decode cL_law 450 = .ok (.i2l, 1) := by decide +kernel
theorem dL_law_451 : decode cL_law 451 = .ok (.lcmp, 1) := by decide +kernel
theorem dL_law_452 : decode cL_law 452 = .ok (.ifCond .eq 5, 3) := by decide +kernel
theorem dL_law_455 : decode cL_law 455 = .ok (.iconst 0, 1) := by decide +kernel
theorem dL_law_456 : decode cL_law 456 = .ok (.ireturn, 1) := by decide +kernel
theorem dL_law_457 : decode cL_law 457 = .ok (.goto 1267, 3) := by decide +kernel
theorem dL_law_460 : decode cL_law 460 = .ok (.aload_n 1, 1) := by decide +kernel
theorem dL_law_461 : decode cL_law 461 = .ok (.invokevirtual 113, 3) := by decide +kernel
theorem dL_law_464 : decode cL_law 464 = .ok (.aload_n 2, 1) := by decide +kernel
theorem dL_law_465 : decode cL_law 465 = .ok (.invokevirtual 117, 3) := by decide +kernel
theorem dL_law_468 : decode cL_law 468 = .ok (.if_icmp .eq 1256, 3) := by decide +kernel
theorem dL_law_471 : decode cL_law 471 = .ok (.iconst 0, 1) := by decide +kernel
theorem dL_law_472 : decode cL_law 472 = .ok (.ireturn, 1) := by decide +kernel
theorem dL_law_473 : decode cL_law 473 = .ok (.aload_n 1, 1) := by decide +kernel
theorem dL_law_474 : decode cL_law 474 = .ok (.aload_n 0, 1) := by decide +kernel
theorem dL_law_475 : decode cL_law 475 = .ok (.iload 4, 2) := by decide +kernel
theorem dL_law_477 : decode cL_law 477 = .ok (.iconst 1, 1) := by decide +kernel
theorem dL_law_478 : decode cL_law 478 = .ok (.iadd, 1) := by decide +kernel
theorem dL_law_479 : decode cL_law 479 = .ok (.iaload, 1) := by decide +kernel
theorem dL_law_480 : decode cL_law 480 = .ok (.aload_n 3, 1) := by decide +kernel
theorem dL_law_481 : decode cL_law 481 = .ok (.invokestatic 118, 3) := by decide +kernel
theorem dL_law_484 : decode cL_law 484 = .ok (.istore 5, 2) := by decide +kernel
theorem dL_law_486 : decode cL_law 486 = .ok (.aload_n 2, 1) := by decide +kernel
theorem dL_law_487 : decode cL_law 487 = .ok (.aload_n 0, 1) := by decide +kernel
theorem dL_law_488 : decode cL_law 488 = .ok (.iload 4, 2) := by decide +kernel
theorem dL_law_490 : decode cL_law 490 = .ok (.iconst 1, 1) := by decide +kernel
theorem dL_law_491 : decode cL_law 491 = .ok (.iadd, 1) := by decide +kernel
theorem dL_law_492 : decode cL_law 492 = .ok (.iaload, 1) := by decide +kernel
theorem dL_law_493 : decode cL_law 493 = .ok (.invokevirtual 120, 3) := by decide +kernel
theorem dL_law_496 : decode cL_law 496 = .ok (.istore 6, 2) := by decide +kernel
theorem dL_law_498 : decode cL_law 498 = .ok (.aload_n 2, 1) := by decide +kernel
theorem dL_law_499 : decode cL_law 499 = .ok (.invokevirtual 98, 3) := by decide +kernel
theorem dL_law_502 : decode cL_law 502 = .ok (.iload 5, 2) := by decide +kernel
theorem dL_law_504 : decode cL_law 504 = .ok (.if_icmp .eq 5, 3) := by decide +kernel
theorem dL_law_507 : decode cL_law 507 = .ok (.iconst 0, 1) := by decide +kernel
theorem dL_law_508 : decode cL_law 508 = .ok (.ireturn, 1) := by decide +kernel
theorem dL_law_509 : decode cL_law 509 = .ok (.iload 5, 2) := by decide +kernel
theorem dL_law_511 : decode cL_law 511 = .ok (.ifCond .ne 15, 3) := by decide +kernel
theorem dL_law_514 : decode cL_law 514 = .ok (.aload_n 3, 1) := by decide +kernel
theorem dL_law_515 : decode cL_law 515 = .ok (.iconst 0, 1) := by decide +kernel
theorem dL_law_516 : decode cL_law 516 = .ok (.laload, 1) := by decide +kernel
theorem dL_law_517 : decode cL_law 517 = .ok (.iload 6, 2) := by decide +kernel
theorem dL_law_519 : decode cL_law 519 = .ok (.i2l, 1) := by decide +kernel
theorem dL_law_520 : decode cL_law 520 = .ok (.lcmp, 1) := by decide +kernel
theorem dL_law_521 : decode cL_law 521 = .ok (.ifCond .eq 5, 3) := by decide +kernel
theorem dL_law_524 : decode cL_law 524 = .ok (.iconst 0, 1) := by decide +kernel
theorem dL_law_525 : decode cL_law 525 = .ok (.ireturn, 1) := by decide +kernel
theorem dL_law_526 : decode cL_law 526 = .ok (.goto 1198, 3) := by decide +kernel
theorem dL_law_529 : decode cL_law 529 = .ok (.aload_n 1, 1) := by decide +kernel
theorem dL_law_530 : decode cL_law 530 = .ok (.invokevirtual 121, 3) := by decide +kernel
theorem dL_law_533 : decode cL_law 533 = .ok (.aload_n 2, 1) := by decide +kernel
theorem dL_law_534 : decode cL_law 534 = .ok (.invokevirtual 124, 3) := by decide +kernel
theorem dL_law_537 : decode cL_law 537 = .ok (.if_icmp .eq 1187, 3) := by decide +kernel
theorem dL_law_540 : decode cL_law 540 = .ok (.iconst 0, 1) := by decide +kernel
theorem dL_law_541 : decode cL_law 541 = .ok (.ireturn, 1) := by decide +kernel
theorem dL_law_542 : decode cL_law 542 = .ok (.aload_n 1, 1) := by decide +kernel
theorem dL_law_543 : decode cL_law 543 = .ok (.invokevirtual 125, 3) := by decide +kernel
theorem dL_law_546 : decode cL_law 546 = .ok (.aload_n 2, 1) := by decide +kernel
theorem dL_law_547 : decode cL_law 547 = .ok (.invokevirtual 128, 3) := by decide +kernel
theorem dL_law_550 : decode cL_law 550 = .ok (.if_icmp .eq 1174, 3) := by decide +kernel
theorem dL_law_553 : decode cL_law 553 = .ok (.iconst 0, 1) := by decide +kernel
theorem dL_law_554 : decode cL_law 554 = .ok (.ireturn, 1) := by decide +kernel
theorem dL_law_555 : decode cL_law 555 = .ok (.aload_n 1, 1) := by decide +kernel
theorem dL_law_556 : decode cL_law 556 = .ok (.aload_n 0, 1) := by decide +kernel
theorem dL_law_557 : decode cL_law 557 = .ok (.iload 4, 2) := by decide +kernel
theorem dL_law_559 : decode cL_law 559 = .ok (.iconst 1, 1) := by decide +kernel
theorem dL_law_560 : decode cL_law 560 = .ok (.iadd, 1) := by decide +kernel
theorem dL_law_561 : decode cL_law 561 = .ok (.iaload, 1) := by decide +kernel
theorem dL_law_562 : decode cL_law 562 = .ok (.aload_n 3, 1) := by decide +kernel
theorem dL_law_563 : decode cL_law 563 = .ok (.invokestatic 129, 3) := by decide +kernel
theorem dL_law_566 : decode cL_law 566 = .ok (.istore 5, 2) := by decide +kernel
theorem dL_law_568 : decode cL_law 568 = .ok (.aload_n 2, 1) := by decide +kernel
theorem dL_law_569 : decode cL_law 569 = .ok (.aload_n 0, 1) := by decide +kernel
theorem dL_law_570 : decode cL_law 570 = .ok (.iload 4, 2) := by decide +kernel
theorem dL_law_572 : decode cL_law 572 = .ok (.iconst 1, 1) := by decide +kernel
theorem dL_law_573 : decode cL_law 573 = .ok (.iadd, 1) := by decide +kernel
theorem dL_law_574 : decode cL_law 574 = .ok (.iaload, 1) := by decide +kernel
theorem dL_law_575 : decode cL_law 575 = .ok (.invokevirtual 131, 3) := by decide +kernel
theorem dL_law_578 : decode cL_law 578 = .ok (.istore 6, 2) := by decide +kernel
theorem dL_law_580 : decode cL_law 580 = .ok (.aload_n 2, 1) := by decide +kernel
theorem dL_law_581 : decode cL_law 581 = .ok (.invokevirtual 98, 3) := by decide +kernel
theorem dL_law_584 : decode cL_law 584 = .ok (.iload 5, 2) := by decide +kernel
theorem dL_law_586 : decode cL_law 586 = .ok (.if_icmp .eq 5, 3) := by decide +kernel
theorem dL_law_589 : decode cL_law 589 = .ok (.iconst 0, 1) := by decide +kernel
theorem dL_law_590 : decode cL_law 590 = .ok (.ireturn, 1) := by decide +kernel
theorem dL_law_591 : decode cL_law 591 = .ok (.iload 5, 2) := by decide +kernel
theorem dL_law_593 : decode cL_law 593 = .ok (.ifCond .ne 15, 3) := by decide +kernel
theorem dL_law_596 : decode cL_law 596 = .ok (.aload_n 3, 1) := by decide +kernel
theorem dL_law_597 : decode cL_law 597 = .ok (.iconst 0, 1) := by decide +kernel
theorem dL_law_598 : decode cL_law 598 = .ok (.laload, 1) := by decide +kernel
theorem dL_law_599 : decode cL_law 599 = .ok (.iload 6, 2) := by decide +kernel
theorem dL_law_601 : decode cL_law 601 = .ok (.i2l, 1) := by decide +kernel
theorem dL_law_602 : decode cL_law 602 = .ok (.lcmp, 1) := by decide +kernel
theorem dL_law_603 : decode cL_law 603 = .ok (.ifCond .eq 5, 3) := by decide +kernel
theorem dL_law_606 : decode cL_law 606 = .ok (.iconst 0, 1) := by decide +kernel
theorem dL_law_607 : decode cL_law 607 = .ok (.ireturn, 1) := by decide +kernel
theorem dL_law_608 : decode cL_law 608 = .ok (.goto 1116, 3) := by decide +kernel
theorem dL_law_611 : decode cL_law 611 = .ok (.aload_n 1, 1) := by decide +kernel
theorem dL_law_612 : decode cL_law 612 = .ok (.aload_n 0, 1) := by decide +kernel
theorem dL_law_613 : decode cL_law 613 = .ok (.iload 4, 2) := by decide +kernel
theorem dL_law_615 : decode cL_law 615 = .ok (.iconst 1, 1) := by decide +kernel
theorem dL_law_616 : decode cL_law 616 = .ok (.iadd, 1) := by decide +kernel
theorem dL_law_617 : decode cL_law 617 = .ok (.iaload, 1) := by decide +kernel
theorem dL_law_618 : decode cL_law 618 = .ok (.aload_n 3, 1) := by decide +kernel
theorem dL_law_619 : decode cL_law 619 = .ok (.invokestatic 132, 3) := by decide +kernel
theorem dL_law_622 : decode cL_law 622 = .ok (.istore 5, 2) := by decide +kernel
theorem dL_law_624 : decode cL_law 624 = .ok (.aload_n 2, 1) := by decide +kernel
theorem dL_law_625 : decode cL_law 625 = .ok (.aload_n 0, 1) := by decide +kernel
theorem dL_law_626 : decode cL_law 626 = .ok (.iload 4, 2) := by decide +kernel
theorem dL_law_628 : decode cL_law 628 = .ok (.iconst 1, 1) := by decide +kernel
theorem dL_law_629 : decode cL_law 629 = .ok (.iadd, 1) := by decide +kernel
theorem dL_law_630 : decode cL_law 630 = .ok (.iaload, 1) := by decide +kernel
theorem dL_law_631 : decode cL_law 631 = .ok (.invokevirtual 134, 3) := by decide +kernel
theorem dL_law_634 : decode cL_law 634 = .ok (.istore 6, 2) := by decide +kernel
theorem dL_law_636 : decode cL_law 636 = .ok (.aload_n 2, 1) := by decide +kernel
theorem dL_law_637 : decode cL_law 637 = .ok (.invokevirtual 98, 3) := by decide +kernel
theorem dL_law_640 : decode cL_law 640 = .ok (.iload 5, 2) := by decide +kernel
theorem dL_law_642 : decode cL_law 642 = .ok (.if_icmp .eq 5, 3) := by decide +kernel
theorem dL_law_645 : decode cL_law 645 = .ok (.iconst 0, 1) := by decide +kernel
theorem dL_law_646 : decode cL_law 646 = .ok (.ireturn, 1) := by decide +kernel
theorem dL_law_647 : decode cL_law 647 = .ok (.iload 5, 2) := by decide +kernel
theorem dL_law_649 : decode cL_law 649 = .ok (.ifCond .ne 15, 3) := by decide +kernel
theorem dL_law_652 : decode cL_law 652 = .ok (.aload_n 3, 1) := by decide +kernel
theorem dL_law_653 : decode cL_law 653 = .ok (.iconst 0, 1) := by decide +kernel
theorem dL_law_654 : decode cL_law 654 = .ok (.laload, 1) := by decide +kernel
theorem dL_law_655 : decode cL_law 655 = .ok (.iload 6, 2) := by decide +kernel
theorem dL_law_657 : decode cL_law 657 = .ok (.i2l, 1) := by decide +kernel
theorem dL_law_658 : decode cL_law 658 = .ok (.lcmp, 1) := by decide +kernel
theorem dL_law_659 : decode cL_law 659 = .ok (.ifCond .eq 5, 3) := by decide +kernel
theorem dL_law_662 : decode cL_law 662 = .ok (.iconst 0, 1) := by decide +kernel
theorem dL_law_663 : decode cL_law 663 = .ok (.ireturn, 1) := by decide +kernel
theorem dL_law_664 : decode cL_law 664 = .ok (.goto 1060, 3) := by decide +kernel
theorem dL_law_667 : decode cL_law 667 = .ok (.aload_n 1, 1) := by decide +kernel
theorem dL_law_668 : decode cL_law 668 = .ok (.aload_n 0, 1) := by decide +kernel
theorem dL_law_669 : decode cL_law 669 = .ok (.iload 4, 2) := by decide +kernel
theorem dL_law_671 : decode cL_law 671 = .ok (.iconst 1, 1) := by decide +kernel
theorem dL_law_672 : decode cL_law 672 = .ok (.iadd, 1) := by decide +kernel
theorem dL_law_673 : decode cL_law 673 = .ok (.iaload, 1) := by decide +kernel
theorem dL_law_674 : decode cL_law 674 = .ok (.aload_n 3, 1) := by decide +kernel
theorem dL_law_675 : decode cL_law 675 = .ok (.invokestatic 135, 3) := by decide +kernel
theorem dL_law_678 : decode cL_law 678 = .ok (.istore 5, 2) := by decide +kernel
theorem dL_law_680 : decode cL_law 680 = .ok (.aload_n 2, 1) := by decide +kernel
theorem dL_law_681 : decode cL_law 681 = .ok (.aload_n 0, 1) := by decide +kernel
theorem dL_law_682 : decode cL_law 682 = .ok (.iload 4, 2) := by decide +kernel
theorem dL_law_684 : decode cL_law 684 = .ok (.iconst 1, 1) := by decide +kernel
theorem dL_law_685 : decode cL_law 685 = .ok (.iadd, 1) := by decide +kernel
theorem dL_law_686 : decode cL_law 686 = .ok (.iaload, 1) := by decide +kernel
theorem dL_law_687 : decode cL_law 687 = .ok (.invokevirtual 137, 3) := by decide +kernel
theorem dL_law_690 : decode cL_law 690 = .ok (.istore 6, 2) := by decide +kernel
theorem dL_law_692 : decode cL_law 692 = .ok (.aload_n 2, 1) := by decide +kernel
theorem dL_law_693 : decode cL_law 693 = .ok (.invokevirtual 98, 3) := by decide +kernel
theorem dL_law_696 : decode cL_law 696 = .ok (.iload 5, 2) := by decide +kernel
theorem dL_law_698 : decode cL_law 698 = .ok (.if_icmp .eq 5, 3) := by decide +kernel
theorem dL_law_701 : decode cL_law 701 = .ok (.iconst 0, 1) := by decide +kernel
theorem dL_law_702 : decode cL_law 702 = .ok (.ireturn, 1) := by decide +kernel
theorem dL_law_703 : decode cL_law 703 = .ok (.iload 5, 2) := by decide +kernel
theorem dL_law_705 : decode cL_law 705 = .ok (.ifCond .ne 15, 3) := by decide +kernel
theorem dL_law_708 : decode cL_law 708 = .ok (.aload_n 3, 1) := by decide +kernel
theorem dL_law_709 : decode cL_law 709 = .ok (.iconst 0, 1) := by decide +kernel
theorem dL_law_710 : decode cL_law 710 = .ok (.laload, 1) := by decide +kernel
theorem dL_law_711 : decode cL_law 711 = .ok (.iload 6, 2) := by decide +kernel
theorem dL_law_713 : decode cL_law 713 = .ok (.i2l, 1) := by decide +kernel
theorem dL_law_714 : decode cL_law 714 = .ok (.lcmp, 1) := by decide +kernel
theorem dL_law_715 : decode cL_law 715 = .ok (.ifCond .eq 5, 3) := by decide +kernel
theorem dL_law_718 : decode cL_law 718 = .ok (.iconst 0, 1) := by decide +kernel
theorem dL_law_719 : decode cL_law 719 = .ok (.ireturn, 1) := by decide +kernel
theorem dL_law_720 : decode cL_law 720 = .ok (.goto 1004, 3) := by decide +kernel
theorem dL_law_723 : decode cL_law 723 = .ok (.aload_n 1, 1) := by decide +kernel
theorem dL_law_724 : decode cL_law 724 = .ok (.invokevirtual 138, 3) := by decide +kernel
theorem dL_law_727 : decode cL_law 727 = .ok (.aload_n 2, 1) := by decide +kernel
theorem dL_law_728 : decode cL_law 728 = .ok (.invokevirtual 141, 3) := by decide +kernel
theorem dL_law_731 : decode cL_law 731 = .ok (.if_icmp .eq 993, 3) := by decide +kernel
theorem dL_law_734 : decode cL_law 734 = .ok (.iconst 0, 1) := by decide +kernel
theorem dL_law_735 : decode cL_law 735 = .ok (.ireturn, 1) := by decide +kernel
theorem dL_law_736 : decode cL_law 736 = .ok (.aload_n 1, 1) := by decide +kernel
theorem dL_law_737 : decode cL_law 737 = .ok (.invokevirtual 142, 3) := by decide +kernel
theorem dL_law_740 : decode cL_law 740 = .ok (.aload_n 2, 1) := by decide +kernel
theorem dL_law_741 : decode cL_law 741 = .ok (.invokevirtual 145, 3) := by decide +kernel
theorem dL_law_744 : decode cL_law 744 = .ok (.if_icmp .eq 980, 3) := by decide +kernel
theorem dL_law_747 : decode cL_law 747 = .ok (.iconst 0, 1) := by decide +kernel
theorem dL_law_748 : decode cL_law 748 = .ok (.ireturn, 1) := by decide +kernel
theorem dL_law_749 : decode cL_law 749 = .ok (.aload_n 1, 1) := by decide +kernel
theorem dL_law_750 : decode cL_law 750 = .ok (.invokevirtual 146, 3) := by decide +kernel
theorem dL_law_753 : decode cL_law 753 = .ok (.aload_n 2, 1) := by decide +kernel
theorem dL_law_754 : decode cL_law 754 = .ok (.invokevirtual 149, 3) := by decide +kernel
theorem dL_law_757 : decode cL_law 757 = .ok (.if_icmp .eq 967, 3) := by decide +kernel
theorem dL_law_760 : decode cL_law 760 = .ok (.iconst 0, 1) := by decide +kernel
theorem dL_law_761 : decode cL_law 761 = .ok (.ireturn, 1) := by decide +kernel
theorem dL_law_762 : decode cL_law 762 = .ok (.aload_n 1, 1) := by decide +kernel
theorem dL_law_763 : decode cL_law 763 = .ok (.aload_n 0, 1) := by decide +kernel
theorem dL_law_764 : decode cL_law 764 = .ok (.iload 4, 2) := by decide +kernel
theorem dL_law_766 : decode cL_law 766 = .ok (.iconst 1, 1) := by decide +kernel
theorem dL_law_767 : decode cL_law 767 = .ok (.iadd, 1) := by decide +kernel
theorem dL_law_768 : decode cL_law 768 = .ok (.iaload, 1) := by decide +kernel
theorem dL_law_769 : decode cL_law 769 = .ok (.aload_n 3, 1) := by decide +kernel
theorem dL_law_770 : decode cL_law 770 = .ok (.invokestatic 150, 3) := by decide +kernel
theorem dL_law_773 : decode cL_law 773 = .ok (.istore 5, 2) := by decide +kernel
theorem dL_law_775 : decode cL_law 775 = .ok (.aload_n 2, 1) := by decide +kernel
theorem dL_law_776 : decode cL_law 776 = .ok (.aload_n 0, 1) := by decide +kernel
theorem dL_law_777 : decode cL_law 777 = .ok (.iload 4, 2) := by decide +kernel
theorem dL_law_779 : decode cL_law 779 = .ok (.iconst 1, 1) := by decide +kernel
theorem dL_law_780 : decode cL_law 780 = .ok (.iadd, 1) := by decide +kernel
theorem dL_law_781 : decode cL_law 781 = .ok (.iaload, 1) := by decide +kernel
theorem dL_law_782 : decode cL_law 782 = .ok (.invokevirtual 152, 3) := by decide +kernel
theorem dL_law_785 : decode cL_law 785 = .ok (.istore 6, 2) := by decide +kernel
theorem dL_law_787 : decode cL_law 787 = .ok (.aload_n 2, 1) := by decide +kernel
theorem dL_law_788 : decode cL_law 788 = .ok (.invokevirtual 98, 3) := by decide +kernel
theorem dL_law_791 : decode cL_law 791 = .ok (.iload 5, 2) := by decide +kernel
theorem dL_law_793 : decode cL_law 793 = .ok (.if_icmp .eq 5, 3) := by decide +kernel
theorem dL_law_796 : decode cL_law 796 = .ok (.iconst 0, 1) := by decide +kernel
theorem dL_law_797 : decode cL_law 797 = .ok (.ireturn, 1) := by decide +kernel
theorem dL_law_798 : decode cL_law 798 = .ok (.iload 5, 2) := by decide +kernel
theorem dL_law_800 : decode cL_law 800 = .ok (.ifCond .ne 15, 3) := by decide +kernel
theorem dL_law_803 : decode cL_law 803 = .ok (.aload_n 3, 1) := by decide +kernel
theorem dL_law_804 : decode cL_law 804 = .ok (.iconst 0, 1) := by decide +kernel
theorem dL_law_805 : decode cL_law 805 = .ok (.laload, 1) := by decide +kernel
theorem dL_law_806 : decode cL_law 806 = .ok (.iload 6, 2) := by decide +kernel
theorem dL_law_808 : decode cL_law 808 = .ok (.i2l, 1) := by decide +kernel
theorem dL_law_809 : decode cL_law 809 = .ok (.lcmp, 1) := by decide +kernel
theorem dL_law_810 : decode cL_law 810 = .ok (.ifCond .eq 5, 3) := by decide +kernel
theorem dL_law_813 : decode cL_law 813 = .ok (.iconst 0, 1) := by decide +kernel
theorem dL_law_814 : decode cL_law 814 = .ok (.ireturn, 1) := by decide +kernel
theorem dL_law_815 : decode cL_law 815 = .ok (.goto 909, 3) := by decide +kernel
theorem dL_law_818 : decode cL_law 818 = .ok (.aload_n 1, 1) := by decide +kernel
theorem dL_law_819 : decode cL_law 819 = .ok (.aload_n 0, 1) := by decide +kernel
theorem dL_law_820 : decode cL_law 820 = .ok (.iload 4, 2) := by decide +kernel
theorem dL_law_822 : decode cL_law 822 = .ok (.iconst 1, 1) := by decide +kernel
theorem dL_law_823 : decode cL_law 823 = .ok (.iadd, 1) := by decide +kernel
theorem dL_law_824 : decode cL_law 824 = .ok (.iaload, 1) := by decide +kernel
theorem dL_law_825 : decode cL_law 825 = .ok (.aload_n 3, 1) := by decide +kernel
theorem dL_law_826 : decode cL_law 826 = .ok (.invokestatic 153, 3) := by decide +kernel
theorem dL_law_829 : decode cL_law 829 = .ok (.istore 5, 2) := by decide +kernel
theorem dL_law_831 : decode cL_law 831 = .ok (.aload_n 2, 1) := by decide +kernel
theorem dL_law_832 : decode cL_law 832 = .ok (.aload_n 0, 1) := by decide +kernel
theorem dL_law_833 : decode cL_law 833 = .ok (.iload 4, 2) := by decide +kernel
theorem dL_law_835 : decode cL_law 835 = .ok (.iconst 1, 1) := by decide +kernel
theorem dL_law_836 : decode cL_law 836 = .ok (.iadd, 1) := by decide +kernel
theorem dL_law_837 : decode cL_law 837 = .ok (.iaload, 1) := by decide +kernel
theorem dL_law_838 : decode cL_law 838 = .ok (.invokevirtual 155, 3) := by decide +kernel
theorem dL_law_841 : decode cL_law 841 = .ok (.istore 6, 2) := by decide +kernel
theorem dL_law_843 : decode cL_law 843 = .ok (.aload_n 2, 1) := by decide +kernel
theorem dL_law_844 : decode cL_law 844 = .ok (.invokevirtual 98, 3) := by decide +kernel
theorem dL_law_847 : decode cL_law 847 = .ok (.iload 5, 2) := by decide +kernel
theorem dL_law_849 : decode cL_law 849 = .ok (.if_icmp .eq 5, 3) := by decide +kernel
theorem dL_law_852 : decode cL_law 852 = .ok (.iconst 0, 1) := by decide +kernel
theorem dL_law_853 : decode cL_law 853 = .ok (.ireturn, 1) := by decide +kernel
theorem dL_law_854 : decode cL_law 854 = .ok (.iload 5, 2) := by decide +kernel
theorem dL_law_856 : decode cL_law 856 = .ok (.ifCond .ne 15, 3) := by decide +kernel
theorem dL_law_859 : decode cL_law 859 = .ok (.aload_n 3, 1) := by decide +kernel
theorem dL_law_860 : decode cL_law 860 = .ok (.iconst 0, 1) := by decide +kernel
theorem dL_law_861 : decode cL_law 861 = .ok (.laload, 1) := by decide +kernel
theorem dL_law_862 : decode cL_law 862 = .ok (.iload 6, 2) := by decide +kernel
theorem dL_law_864 : decode cL_law 864 = .ok (.i2l, 1) := by decide +kernel
theorem dL_law_865 : decode cL_law 865 = .ok (.lcmp, 1) := by decide +kernel
theorem dL_law_866 : decode cL_law 866 = .ok (.ifCond .eq 5, 3) := by decide +kernel
theorem dL_law_869 : decode cL_law 869 = .ok (.iconst 0, 1) := by decide +kernel
theorem dL_law_870 : decode cL_law 870 = .ok (.ireturn, 1) := by decide +kernel
theorem dL_law_871 : decode cL_law 871 = .ok (.goto 853, 3) := by decide +kernel
theorem dL_law_874 : decode cL_law 874 = .ok (.aload_n 1, 1) := by decide +kernel
theorem dL_law_875 : decode cL_law 875 = .ok (.aload_n 0, 1) := by decide +kernel
theorem dL_law_876 : decode cL_law 876 = .ok (.iload 4, 2) := by decide +kernel
theorem dL_law_878 : decode cL_law 878 = .ok (.iconst 1, 1) := by decide +kernel
theorem dL_law_879 : decode cL_law 879 = .ok (.iadd, 1) := by decide +kernel
theorem dL_law_880 : decode cL_law 880 = .ok (.iaload, 1) := by decide +kernel
theorem dL_law_881 : decode cL_law 881 = .ok (.aload_n 3, 1) := by decide +kernel
theorem dL_law_882 : decode cL_law 882 = .ok (.invokestatic 156, 3) := by decide +kernel
theorem dL_law_885 : decode cL_law 885 = .ok (.istore 5, 2) := by decide +kernel
theorem dL_law_887 : decode cL_law 887 = .ok (.aload_n 2, 1) := by decide +kernel
theorem dL_law_888 : decode cL_law 888 = .ok (.aload_n 0, 1) := by decide +kernel
theorem dL_law_889 : decode cL_law 889 = .ok (.iload 4, 2) := by decide +kernel
theorem dL_law_891 : decode cL_law 891 = .ok (.iconst 1, 1) := by decide +kernel
theorem dL_law_892 : decode cL_law 892 = .ok (.iadd, 1) := by decide +kernel
theorem dL_law_893 : decode cL_law 893 = .ok (.iaload, 1) := by decide +kernel
theorem dL_law_894 : decode cL_law 894 = .ok (.invokevirtual 158, 3) := by decide +kernel
theorem dL_law_897 : decode cL_law 897 = .ok (.istore 6, 2) := by decide +kernel
theorem dL_law_899 : decode cL_law 899 = .ok (.aload_n 2, 1) := by decide +kernel
theorem dL_law_900 : decode cL_law 900 = .ok (.invokevirtual 98, 3) := by decide +kernel
theorem dL_law_903 : decode cL_law 903 = .ok (.iload 5, 2) := by decide +kernel
theorem dL_law_905 : decode cL_law 905 = .ok (.if_icmp .eq 5, 3) := by decide +kernel
theorem dL_law_908 : decode cL_law 908 = .ok (.iconst 0, 1) := by decide +kernel
theorem dL_law_909 : decode cL_law 909 = .ok (.ireturn, 1) := by decide +kernel
theorem dL_law_910 : decode cL_law 910 = .ok (.iload 5, 2) := by decide +kernel
theorem dL_law_912 : decode cL_law 912 = .ok (.ifCond .ne 15, 3) := by decide +kernel
theorem dL_law_915 : decode cL_law 915 = .ok (.aload_n 3, 1) := by decide +kernel
theorem dL_law_916 : decode cL_law 916 = .ok (.iconst 0, 1) := by decide +kernel
theorem dL_law_917 : decode cL_law 917 = .ok (.laload, 1) := by decide +kernel
theorem dL_law_918 : decode cL_law 918 = .ok (.iload 6, 2) := by decide +kernel
theorem dL_law_920 : decode cL_law 920 = .ok (.i2l, 1) := by decide +kernel
theorem dL_law_921 : decode cL_law 921 = .ok (.lcmp, 1) := by decide +kernel
theorem dL_law_922 : decode cL_law 922 = .ok (.ifCond .eq 5, 3) := by decide +kernel
theorem dL_law_925 : decode cL_law 925 = .ok (.iconst 0, 1) := by decide +kernel
theorem dL_law_926 : decode cL_law 926 = .ok (.ireturn, 1) := by decide +kernel
theorem dL_law_927 : decode cL_law 927 = .ok (.goto 797, 3) := by decide +kernel
theorem dL_law_930 : decode cL_law 930 = .ok (.aload_n 1, 1) := by decide +kernel
theorem dL_law_931 : decode cL_law 931 = .ok (.aload_n 0, 1) := by decide +kernel
theorem dL_law_932 : decode cL_law 932 = .ok (.iload 4, 2) := by decide +kernel
theorem dL_law_934 : decode cL_law 934 = .ok (.iconst 1, 1) := by decide +kernel
theorem dL_law_935 : decode cL_law 935 = .ok (.iadd, 1) := by decide +kernel
theorem dL_law_936 : decode cL_law 936 = .ok (.iaload, 1) := by decide +kernel
theorem dL_law_937 : decode cL_law 937 = .ok (.aload_n 3, 1) := by decide +kernel
theorem dL_law_938 : decode cL_law 938 = .ok (.invokestatic 159, 3) := by decide +kernel
theorem dL_law_941 : decode cL_law 941 = .ok (.istore 5, 2) := by decide +kernel
theorem dL_law_943 : decode cL_law 943 = .ok (.aload_n 2, 1) := by decide +kernel
theorem dL_law_944 : decode cL_law 944 = .ok (.aload_n 0, 1) := by decide +kernel
theorem dL_law_945 : decode cL_law 945 = .ok (.iload 4, 2) := by decide +kernel
theorem dL_law_947 : decode cL_law 947 = .ok (.iconst 1, 1) := by decide +kernel
theorem dL_law_948 : decode cL_law 948 = .ok (.iadd, 1) := by decide +kernel
theorem dL_law_949 : decode cL_law 949 = .ok (.iaload, 1) := by decide +kernel
theorem dL_law_950 : decode cL_law 950 = .ok (.invokevirtual 161, 3) := by decide +kernel
theorem dL_law_953 : decode cL_law 953 = .ok (.istore 6, 2) := by decide +kernel
theorem dL_law_955 : decode cL_law 955 = .ok (.aload_n 2, 1) := by decide +kernel
theorem dL_law_956 : decode cL_law 956 = .ok (.invokevirtual 98, 3) := by decide +kernel
theorem dL_law_959 : decode cL_law 959 = .ok (.iload 5, 2) := by decide +kernel
theorem dL_law_961 : decode cL_law 961 = .ok (.if_icmp .eq 5, 3) := by decide +kernel
theorem dL_law_964 : decode cL_law 964 = .ok (.iconst 0, 1) := by decide +kernel
theorem dL_law_965 : decode cL_law 965 = .ok (.ireturn, 1) := by decide +kernel
theorem dL_law_966 : decode cL_law 966 = .ok (.iload 5, 2) := by decide +kernel
theorem dL_law_968 : decode cL_law 968 = .ok (.ifCond .ne 15, 3) := by decide +kernel
theorem dL_law_971 : decode cL_law 971 = .ok (.aload_n 3, 1) := by decide +kernel
theorem dL_law_972 : decode cL_law 972 = .ok (.iconst 0, 1) := by decide +kernel
theorem dL_law_973 : decode cL_law 973 = .ok (.laload, 1) := by decide +kernel
theorem dL_law_974 : decode cL_law 974 = .ok (.iload 6, 2) := by decide +kernel
theorem dL_law_976 : decode cL_law 976 = .ok (.i2l, 1) := by decide +kernel
theorem dL_law_977 : decode cL_law 977 = .ok (.lcmp, 1) := by decide +kernel
theorem dL_law_978 : decode cL_law 978 = .ok (.ifCond .eq 5, 3) := by decide +kernel
theorem dL_law_981 : decode cL_law 981 = .ok (.iconst 0, 1) := by decide +kernel
theorem dL_law_982 : decode cL_law 982 = .ok (.ireturn, 1) := by decide +kernel
theorem dL_law_983 : decode cL_law 983 = .ok (.goto 741, 3) := by decide +kernel
theorem dL_law_986 : decode cL_law 986 = .ok (.aload_n 1, 1) := by decide +kernel
theorem dL_law_987 : decode cL_law 987 = .ok (.aload_n 0, 1) := by decide +kernel
theorem dL_law_988 : decode cL_law 988 = .ok (.iload 4, 2) := by decide +kernel
theorem dL_law_990 : decode cL_law 990 = .ok (.iconst 1, 1) := by decide +kernel
theorem dL_law_991 : decode cL_law 991 = .ok (.iadd, 1) := by decide +kernel
theorem dL_law_992 : decode cL_law 992 = .ok (.iaload, 1) := by decide +kernel
theorem dL_law_993 : decode cL_law 993 = .ok (.aload_n 3, 1) := by decide +kernel
theorem dL_law_994 : decode cL_law 994 = .ok (.invokestatic 162, 3) := by decide +kernel
theorem dL_law_997 : decode cL_law 997 = .ok (.istore 5, 2) := by decide +kernel
theorem dL_law_999 : decode cL_law 999 = .ok (.aload_n 2, 1) := by decide +kernel
theorem dL_law_1000 : decode cL_law 1000 = .ok (.aload_n 0, 1) := by decide +kernel
theorem dL_law_1001 : decode cL_law 1001 = .ok (.iload 4, 2) := by decide +kernel
theorem dL_law_1003 : decode cL_law 1003 = .ok (.iconst 1, 1) := by decide +kernel
theorem dL_law_1004 : decode cL_law 1004 = .ok (.iadd, 1) := by decide +kernel
theorem dL_law_1005 : decode cL_law 1005 = .ok (.iaload, 1) := by decide +kernel
theorem dL_law_1006 : decode cL_law 1006 = .ok (.invokevirtual 164, 3) := by decide +kernel
theorem dL_law_1009 : decode cL_law 1009 = .ok (.istore 6, 2) := by decide +kernel
theorem dL_law_1011 : decode cL_law 1011 = .ok (.aload_n 2, 1) := by decide +kernel
theorem dL_law_1012 : decode cL_law 1012 = .ok (.invokevirtual 98, 3) := by decide +kernel
theorem dL_law_1015 : decode cL_law 1015 = .ok (.iload 5, 2) := by decide +kernel
theorem dL_law_1017 : decode cL_law 1017 = .ok (.if_icmp .eq 5, 3) := by decide +kernel
theorem dL_law_1020 : decode cL_law 1020 = .ok (.iconst 0, 1) := by decide +kernel
theorem dL_law_1021 : decode cL_law 1021 = .ok (.ireturn, 1) := by decide +kernel
theorem dL_law_1022 : decode cL_law 1022 = .ok (.iload 5, 2) := by decide +kernel
theorem dL_law_1024 : decode cL_law 1024 = .ok (.ifCond .ne 15, 3) := by decide +kernel
theorem dL_law_1027 : decode cL_law 1027 = .ok (.aload_n 3, 1) := by decide +kernel
theorem dL_law_1028 : decode cL_law 1028 = .ok (.iconst 0, 1) := by decide +kernel
theorem dL_law_1029 : decode cL_law 1029 = .ok (.laload, 1) := by decide +kernel
theorem dL_law_1030 : decode cL_law 1030 = .ok (.iload 6, 2) := by decide +kernel
theorem dL_law_1032 : decode cL_law 1032 = .ok (.i2l, 1) := by decide +kernel
theorem dL_law_1033 : decode cL_law 1033 = .ok (.lcmp, 1) := by decide +kernel
theorem dL_law_1034 : decode cL_law 1034 = .ok (.ifCond .eq 5, 3) := by decide +kernel
theorem dL_law_1037 : decode cL_law 1037 = .ok (.iconst 0, 1) := by decide +kernel
theorem dL_law_1038 : decode cL_law 1038 = .ok (.ireturn, 1) := by decide +kernel
theorem dL_law_1039 : decode cL_law 1039 = .ok (.goto 685, 3) := by decide +kernel
theorem dL_law_1042 : decode cL_law 1042 = .ok (.aload_n 1, 1) := by decide +kernel
theorem dL_law_1043 : decode cL_law 1043 = .ok (.aload_n 0, 1) := by decide +kernel
theorem dL_law_1044 : decode cL_law 1044 = .ok (.iload 4, 2) := by decide +kernel
theorem dL_law_1046 : decode cL_law 1046 = .ok (.iconst 1, 1) := by decide +kernel
theorem dL_law_1047 : decode cL_law 1047 = .ok (.iadd, 1) := by decide +kernel
theorem dL_law_1048 : decode cL_law 1048 = .ok (.iaload, 1) := by decide +kernel
theorem dL_law_1049 : decode cL_law 1049 = .ok (.aload_n 3, 1) := by decide +kernel
theorem dL_law_1050 : decode cL_law 1050 = .ok (.invokestatic 165, 3) := by decide +kernel
theorem dL_law_1053 : decode cL_law 1053 = .ok (.istore 5, 2) := by decide +kernel
theorem dL_law_1055 : decode cL_law 1055 = .ok (.aload_n 2, 1) := by decide +kernel
theorem dL_law_1056 : decode cL_law 1056 = .ok (.aload_n 0, 1) := by decide +kernel
theorem dL_law_1057 : decode cL_law 1057 = .ok (.iload 4, 2) := by decide +kernel
theorem dL_law_1059 : decode cL_law 1059 = .ok (.iconst 1, 1) := by decide +kernel
theorem dL_law_1060 : decode cL_law 1060 = .ok (.iadd, 1) := by decide +kernel
theorem dL_law_1061 : decode cL_law 1061 = .ok (.iaload, 1) := by decide +kernel
theorem dL_law_1062 : decode cL_law 1062 = .ok (.invokevirtual 167, 3) := by decide +kernel
theorem dL_law_1065 : decode cL_law 1065 = .ok (.istore 6, 2) := by decide +kernel
theorem dL_law_1067 : decode cL_law 1067 = .ok (.aload_n 2, 1) := by decide +kernel
theorem dL_law_1068 : decode cL_law 1068 = .ok (.invokevirtual 98, 3) := by decide +kernel
theorem dL_law_1071 : decode cL_law 1071 = .ok (.iload 5, 2) := by decide +kernel
theorem dL_law_1073 : decode cL_law 1073 = .ok (.if_icmp .eq 5, 3) := by decide +kernel
theorem dL_law_1076 : decode cL_law 1076 = .ok (.iconst 0, 1) := by decide +kernel
theorem dL_law_1077 : decode cL_law 1077 = .ok (.ireturn, 1) := by decide +kernel
theorem dL_law_1078 : decode cL_law 1078 = .ok (.iload 5, 2) := by decide +kernel
theorem dL_law_1080 : decode cL_law 1080 = .ok (.ifCond .ne 22, 3) := by decide +kernel
theorem dL_law_1083 : decode cL_law 1083 = .ok (.aload_n 3, 1) := by decide +kernel
theorem dL_law_1084 : decode cL_law 1084 = .ok (.iconst 0, 1) := by decide +kernel
theorem dL_law_1085 : decode cL_law 1085 = .ok (.laload, 1) := by decide +kernel
theorem dL_law_1086 : decode cL_law 1086 = .ok (.iload 6, 2) := by decide +kernel
theorem dL_law_1088 : decode cL_law 1088 = .ok (.ifCond .eq 7, 3) := by decide +kernel
theorem dL_law_1091 : decode cL_law 1091 = .ok (.lconst 1, 1) := by decide +kernel
theorem dL_law_1092 : decode cL_law 1092 = .ok (.goto 4, 3) := by decide +kernel
theorem dL_law_1095 : decode cL_law 1095 = .ok (.lconst 0, 1) := by decide +kernel
theorem dL_law_1096 : decode cL_law 1096 = .ok (.lcmp, 1) := by decide +kernel
theorem dL_law_1097 : decode cL_law 1097 = .ok (.ifCond .eq 5, 3) := by decide +kernel
theorem dL_law_1100 : decode cL_law 1100 = .ok (.iconst 0, 1) := by decide +kernel
theorem dL_law_1101 : decode cL_law 1101 = .ok (.ireturn, 1) := by decide +kernel
theorem dL_law_1102 : decode cL_law 1102 = .ok (.goto 622, 3) := by decide +kernel
theorem dL_law_1105 : decode cL_law 1105 = .ok (.aload_n 1, 1) := by decide +kernel
theorem dL_law_1106 : decode cL_law 1106 = .ok (.aload_n 0, 1) := by decide +kernel
theorem dL_law_1107 : decode cL_law 1107 = .ok (.iload 4, 2) := by decide +kernel
theorem dL_law_1109 : decode cL_law 1109 = .ok (.iconst 1, 1) := by decide +kernel
theorem dL_law_1110 : decode cL_law 1110 = .ok (.iadd, 1) := by decide +kernel
theorem dL_law_1111 : decode cL_law 1111 = .ok (.iaload, 1) := by decide +kernel
theorem dL_law_1112 : decode cL_law 1112 = .ok (.aload_n 3, 1) := by decide +kernel
theorem dL_law_1113 : decode cL_law 1113 = .ok (.invokestatic 168, 3) := by decide +kernel
theorem dL_law_1116 : decode cL_law 1116 = .ok (.istore 5, 2) := by decide +kernel
theorem dL_law_1118 : decode cL_law 1118 = .ok (.aload_n 2, 1) := by decide +kernel
theorem dL_law_1119 : decode cL_law 1119 = .ok (.aload_n 0, 1) := by decide +kernel
theorem dL_law_1120 : decode cL_law 1120 = .ok (.iload 4, 2) := by decide +kernel
theorem dL_law_1122 : decode cL_law 1122 = .ok (.iconst 1, 1) := by decide +kernel
theorem dL_law_1123 : decode cL_law 1123 = .ok (.iadd, 1) := by decide +kernel
theorem dL_law_1124 : decode cL_law 1124 = .ok (.iaload, 1) := by decide +kernel
theorem dL_law_1125 : decode cL_law 1125 = .ok (.invokevirtual 170, 3) := by decide +kernel
theorem dL_law_1128 : decode cL_law 1128 = .ok (.istore 6, 2) := by decide +kernel
theorem dL_law_1130 : decode cL_law 1130 = .ok (.aload_n 2, 1) := by decide +kernel
theorem dL_law_1131 : decode cL_law 1131 = .ok (.invokevirtual 98, 3) := by decide +kernel
theorem dL_law_1134 : decode cL_law 1134 = .ok (.iload 5, 2) := by decide +kernel
theorem dL_law_1136 : decode cL_law 1136 = .ok (.if_icmp .eq 5, 3) := by decide +kernel
theorem dL_law_1139 : decode cL_law 1139 = .ok (.iconst 0, 1) := by decide +kernel
theorem dL_law_1140 : decode cL_law 1140 = .ok (.ireturn, 1) := by decide +kernel
theorem dL_law_1141 : decode cL_law 1141 = .ok (.iload 5, 2) := by decide +kernel
theorem dL_law_1143 : decode cL_law 1143 = .ok (.ifCond .ne 22, 3) := by decide +kernel
theorem dL_law_1146 : decode cL_law 1146 = .ok (.aload_n 3, 1) := by decide +kernel
theorem dL_law_1147 : decode cL_law 1147 = .ok (.iconst 0, 1) := by decide +kernel
theorem dL_law_1148 : decode cL_law 1148 = .ok (.laload, 1) := by decide +kernel
theorem dL_law_1149 : decode cL_law 1149 = .ok (.iload 6, 2) := by decide +kernel
theorem dL_law_1151 : decode cL_law 1151 = .ok (.ifCond .eq 7, 3) := by decide +kernel
theorem dL_law_1154 : decode cL_law 1154 = .ok (.lconst 1, 1) := by decide +kernel
theorem dL_law_1155 : decode cL_law 1155 = .ok (.goto 4, 3) := by decide +kernel
theorem dL_law_1158 : decode cL_law 1158 = .ok (.lconst 0, 1) := by decide +kernel
theorem dL_law_1159 : decode cL_law 1159 = .ok (.lcmp, 1) := by decide +kernel
theorem dL_law_1160 : decode cL_law 1160 = .ok (.ifCond .eq 5, 3) := by decide +kernel
theorem dL_law_1163 : decode cL_law 1163 = .ok (.iconst 0, 1) := by decide +kernel
theorem dL_law_1164 : decode cL_law 1164 = .ok (.ireturn, 1) := by decide +kernel
theorem dL_law_1165 : decode cL_law 1165 = .ok (.goto 559, 3) := by decide +kernel
theorem dL_law_1168 : decode cL_law 1168 = .ok (.aload_n 1, 1) := by decide +kernel
theorem dL_law_1169 : decode cL_law 1169 = .ok (.aload_n 0, 1) := by decide +kernel
theorem dL_law_1170 : decode cL_law 1170 = .ok (.iload 4, 2) := by decide +kernel
theorem dL_law_1172 : decode cL_law 1172 = .ok (.iconst 1, 1) := by decide +kernel
theorem dL_law_1173 : decode cL_law 1173 = .ok (.iadd, 1) := by decide +kernel
theorem dL_law_1174 : decode cL_law 1174 = .ok (.iaload, 1) := by decide +kernel
theorem dL_law_1175 : decode cL_law 1175 = .ok (.aload_n 3, 1) := by decide +kernel
theorem dL_law_1176 : decode cL_law 1176 = .ok (.invokestatic 171, 3) := by decide +kernel
theorem dL_law_1179 : decode cL_law 1179 = .ok (.istore 5, 2) := by decide +kernel
theorem dL_law_1181 : decode cL_law 1181 = .ok (.aload_n 2, 1) := by decide +kernel
theorem dL_law_1182 : decode cL_law 1182 = .ok (.aload_n 0, 1) := by decide +kernel
theorem dL_law_1183 : decode cL_law 1183 = .ok (.iload 4, 2) := by decide +kernel
theorem dL_law_1185 : decode cL_law 1185 = .ok (.iconst 1, 1) := by decide +kernel
theorem dL_law_1186 : decode cL_law 1186 = .ok (.iadd, 1) := by decide +kernel
theorem dL_law_1187 : decode cL_law 1187 = .ok (.iaload, 1) := by decide +kernel
theorem dL_law_1188 : decode cL_law 1188 = .ok (.invokevirtual 173, 3) := by decide +kernel
theorem dL_law_1191 : decode cL_law 1191 = .ok (.istore 6, 2) := by decide +kernel
theorem dL_law_1193 : decode cL_law 1193 = .ok (.aload_n 2, 1) := by decide +kernel
theorem dL_law_1194 : decode cL_law 1194 = .ok (.invokevirtual 98, 3) := by decide +kernel
theorem dL_law_1197 : decode cL_law 1197 = .ok (.iload 5, 2) := by decide +kernel
theorem dL_law_1199 : decode cL_law 1199 = .ok (.if_icmp .eq 5, 3) := by decide +kernel
theorem dL_law_1202 : decode cL_law 1202 = .ok (.iconst 0, 1) := by decide +kernel
theorem dL_law_1203 : decode cL_law 1203 = .ok (.ireturn, 1) := by decide +kernel
theorem dL_law_1204 : decode cL_law 1204 = .ok (.iload 5, 2) := by decide +kernel
theorem dL_law_1206 : decode cL_law 1206 = .ok (.ifCond .ne 22, 3) := by decide +kernel
theorem dL_law_1209 : decode cL_law 1209 = .ok (.aload_n 3, 1) := by decide +kernel
theorem dL_law_1210 : decode cL_law 1210 = .ok (.iconst 0, 1) := by decide +kernel
theorem dL_law_1211 : decode cL_law 1211 = .ok (.laload, 1) := by decide +kernel
theorem dL_law_1212 : decode cL_law 1212 = .ok (.iload 6, 2) := by decide +kernel
theorem dL_law_1214 : decode cL_law 1214 = .ok (.ifCond .eq 7, 3) := by decide +kernel
theorem dL_law_1217 : decode cL_law 1217 = .ok (.lconst 1, 1) := by decide +kernel
theorem dL_law_1218 : decode cL_law 1218 = .ok (.goto 4, 3) := by decide +kernel
theorem dL_law_1221 : decode cL_law 1221 = .ok (.lconst 0, 1) := by decide +kernel
theorem dL_law_1222 : decode cL_law 1222 = .ok (.lcmp, 1) := by decide +kernel
theorem dL_law_1223 : decode cL_law 1223 = .ok (.ifCond .eq 5, 3) := by decide +kernel
theorem dL_law_1226 : decode cL_law 1226 = .ok (.iconst 0, 1) := by decide +kernel
theorem dL_law_1227 : decode cL_law 1227 = .ok (.ireturn, 1) := by decide +kernel
theorem dL_law_1228 : decode cL_law 1228 = .ok (.goto 496, 3) := by decide +kernel
theorem dL_law_1231 : decode cL_law 1231 = .ok (.aload_n 1, 1) := by decide +kernel
theorem dL_law_1232 : decode cL_law 1232 = .ok (.aload_n 0, 1) := by decide +kernel
theorem dL_law_1233 : decode cL_law 1233 = .ok (.iload 4, 2) := by decide +kernel
theorem dL_law_1235 : decode cL_law 1235 = .ok (.iconst 1, 1) := by decide +kernel
theorem dL_law_1236 : decode cL_law 1236 = .ok (.iadd, 1) := by decide +kernel
theorem dL_law_1237 : decode cL_law 1237 = .ok (.iaload, 1) := by decide +kernel
theorem dL_law_1238 : decode cL_law 1238 = .ok (.aload_n 3, 1) := by decide +kernel
theorem dL_law_1239 : decode cL_law 1239 = .ok (.invokestatic 174, 3) := by decide +kernel
theorem dL_law_1242 : decode cL_law 1242 = .ok (.istore 5, 2) := by decide +kernel
theorem dL_law_1244 : decode cL_law 1244 = .ok (.aload_n 2, 1) := by decide +kernel
theorem dL_law_1245 : decode cL_law 1245 = .ok (.aload_n 0, 1) := by decide +kernel
theorem dL_law_1246 : decode cL_law 1246 = .ok (.iload 4, 2) := by decide +kernel
theorem dL_law_1248 : decode cL_law 1248 = .ok (.iconst 1, 1) := by decide +kernel
theorem dL_law_1249 : decode cL_law 1249 = .ok (.iadd, 1) := by decide +kernel
theorem dL_law_1250 : decode cL_law 1250 = .ok (.iaload, 1) := by decide +kernel
theorem dL_law_1251 : decode cL_law 1251 = .ok (.invokevirtual 176, 3) := by decide +kernel
theorem dL_law_1254 : decode cL_law 1254 = .ok (.istore 6, 2) := by decide +kernel
theorem dL_law_1256 : decode cL_law 1256 = .ok (.aload_n 2, 1) := by decide +kernel
theorem dL_law_1257 : decode cL_law 1257 = .ok (.invokevirtual 98, 3) := by decide +kernel
theorem dL_law_1260 : decode cL_law 1260 = .ok (.iload 5, 2) := by decide +kernel
theorem dL_law_1262 : decode cL_law 1262 = .ok (.if_icmp .eq 5, 3) := by decide +kernel
theorem dL_law_1265 : decode cL_law 1265 = .ok (.iconst 0, 1) := by decide +kernel
theorem dL_law_1266 : decode cL_law 1266 = .ok (.ireturn, 1) := by decide +kernel
theorem dL_law_1267 : decode cL_law 1267 = .ok (.iload 5, 2) := by decide +kernel
theorem dL_law_1269 : decode cL_law 1269 = .ok (.ifCond .ne 22, 3) := by decide +kernel
theorem dL_law_1272 : decode cL_law 1272 = .ok (.aload_n 3, 1) := by decide +kernel
theorem dL_law_1273 : decode cL_law 1273 = .ok (.iconst 0, 1) := by decide +kernel
theorem dL_law_1274 : decode cL_law 1274 = .ok (.laload, 1) := by decide +kernel
theorem dL_law_1275 : decode cL_law 1275 = .ok (.iload 6, 2) := by decide +kernel
theorem dL_law_1277 : decode cL_law 1277 = .ok (.ifCond .eq 7, 3) := by decide +kernel
theorem dL_law_1280 : decode cL_law 1280 = .ok (.lconst 1, 1) := by decide +kernel
theorem dL_law_1281 : decode cL_law 1281 = .ok (.goto 4, 3) := by decide +kernel
theorem dL_law_1284 : decode cL_law 1284 = .ok (.lconst 0, 1) := by decide +kernel
theorem dL_law_1285 : decode cL_law 1285 = .ok (.lcmp, 1) := by decide +kernel
theorem dL_law_1286 : decode cL_law 1286 = .ok (.ifCond .eq 5, 3) := by decide +kernel
theorem dL_law_1289 : decode cL_law 1289 = .ok (.iconst 0, 1) := by decide +kernel
theorem dL_law_1290 : decode cL_law 1290 = .ok (.ireturn, 1) := by decide +kernel
theorem dL_law_1291 : decode cL_law 1291 = .ok (.goto 433, 3) := by decide +kernel
theorem dL_law_1294 : decode cL_law 1294 = .ok (.aload_n 1, 1) := by decide +kernel
theorem dL_law_1295 : decode cL_law 1295 = .ok (.aload_n 0, 1) := by decide +kernel
theorem dL_law_1296 : decode cL_law 1296 = .ok (.iload 4, 2) := by decide +kernel
theorem dL_law_1298 : decode cL_law 1298 = .ok (.iconst 1, 1) := by decide +kernel
theorem dL_law_1299 : decode cL_law 1299 = .ok (.iadd, 1) := by decide +kernel
theorem dL_law_1300 : decode cL_law 1300 = .ok (.iaload, 1) := by decide +kernel
theorem dL_law_1301 : decode cL_law 1301 = .ok (.aload_n 3, 1) := by decide +kernel
theorem dL_law_1302 : decode cL_law 1302 = .ok (.invokestatic 177, 3) := by decide +kernel
theorem dL_law_1305 : decode cL_law 1305 = .ok (.istore 5, 2) := by decide +kernel
theorem dL_law_1307 : decode cL_law 1307 = .ok (.aload_n 2, 1) := by decide +kernel
theorem dL_law_1308 : decode cL_law 1308 = .ok (.aload_n 0, 1) := by decide +kernel
theorem dL_law_1309 : decode cL_law 1309 = .ok (.iload 4, 2) := by decide +kernel
theorem dL_law_1311 : decode cL_law 1311 = .ok (.iconst 1, 1) := by decide +kernel
theorem dL_law_1312 : decode cL_law 1312 = .ok (.iadd, 1) := by decide +kernel
theorem dL_law_1313 : decode cL_law 1313 = .ok (.iaload, 1) := by decide +kernel
theorem dL_law_1314 : decode cL_law 1314 = .ok (.invokevirtual 179, 3) := by decide +kernel
theorem dL_law_1317 : decode cL_law 1317 = .ok (.istore 6, 2) := by decide +kernel
theorem dL_law_1319 : decode cL_law 1319 = .ok (.aload_n 2, 1) := by decide +kernel
theorem dL_law_1320 : decode cL_law 1320 = .ok (.invokevirtual 98, 3) := by decide +kernel
theorem dL_law_1323 : decode cL_law 1323 = .ok (.iload 5, 2) := by decide +kernel
theorem dL_law_1325 : decode cL_law 1325 = .ok (.if_icmp .eq 5, 3) := by decide +kernel
theorem dL_law_1328 : decode cL_law 1328 = .ok (.iconst 0, 1) := by decide +kernel
theorem dL_law_1329 : decode cL_law 1329 = .ok (.ireturn, 1) := by decide +kernel
theorem dL_law_1330 : decode cL_law 1330 = .ok (.iload 5, 2) := by decide +kernel
theorem dL_law_1332 : decode cL_law 1332 = .ok (.ifCond .ne 15, 3) := by decide +kernel
theorem dL_law_1335 : decode cL_law 1335 = .ok (.aload_n 3, 1) := by decide +kernel
theorem dL_law_1336 : decode cL_law 1336 = .ok (.iconst 0, 1) := by decide +kernel
theorem dL_law_1337 : decode cL_law 1337 = .ok (.laload, 1) := by decide +kernel
theorem dL_law_1338 : decode cL_law 1338 = .ok (.iload 6, 2) := by decide +kernel
theorem dL_law_1340 : decode cL_law 1340 = .ok (.i2l, 1) := by decide +kernel
theorem dL_law_1341 : decode cL_law 1341 = .ok (.lcmp, 1) := by decide +kernel
theorem dL_law_1342 : decode cL_law 1342 = .ok (.ifCond .eq 5, 3) := by decide +kernel
theorem dL_law_1345 : decode cL_law 1345 = .ok (.iconst 0, 1) := by decide +kernel
theorem dL_law_1346 : decode cL_law 1346 = .ok (.ireturn, 1) := by decide +kernel
theorem dL_law_1347 : decode cL_law 1347 = .ok (.goto 377, 3) := by decide +kernel
theorem dL_law_1350 : decode cL_law 1350 = .ok (.aload_n 1, 1) := by decide +kernel
theorem dL_law_1351 : decode cL_law 1351 = .ok (.aload_n 0, 1) := by decide +kernel
theorem dL_law_1352 : decode cL_law 1352 = .ok (.iload 4, 2) := by decide +kernel
theorem dL_law_1354 : decode cL_law 1354 = .ok (.iconst 1, 1) := by decide +kernel
theorem dL_law_1355 : decode cL_law 1355 = .ok (.iadd, 1) := by decide +kernel
theorem dL_law_1356 : decode cL_law 1356 = .ok (.iaload, 1) := by decide +kernel
theorem dL_law_1357 : decode cL_law 1357 = .ok (.aload_n 3, 1) := by decide +kernel
theorem dL_law_1358 : decode cL_law 1358 = .ok (.invokestatic 180, 3) := by decide +kernel
theorem dL_law_1361 : decode cL_law 1361 = .ok (.istore 5, 2) := by decide +kernel
theorem dL_law_1363 : decode cL_law 1363 = .ok (.aload_n 2, 1) := by decide +kernel
theorem dL_law_1364 : decode cL_law 1364 = .ok (.aload_n 0, 1) := by decide +kernel
theorem dL_law_1365 : decode cL_law 1365 = .ok (.iload 4, 2) := by decide +kernel
theorem dL_law_1367 : decode cL_law 1367 = .ok (.iconst 1, 1) := by decide +kernel
theorem dL_law_1368 : decode cL_law 1368 = .ok (.iadd, 1) := by decide +kernel
theorem dL_law_1369 : decode cL_law 1369 = .ok (.iaload, 1) := by decide +kernel
theorem dL_law_1370 : decode cL_law 1370 = .ok (.invokevirtual 182, 3) := by decide +kernel
theorem dL_law_1373 : decode cL_law 1373 = .ok (.istore 6, 2) := by decide +kernel
theorem dL_law_1375 : decode cL_law 1375 = .ok (.aload_n 2, 1) := by decide +kernel
theorem dL_law_1376 : decode cL_law 1376 = .ok (.invokevirtual 98, 3) := by decide +kernel
theorem dL_law_1379 : decode cL_law 1379 = .ok (.iload 5, 2) := by decide +kernel
theorem dL_law_1381 : decode cL_law 1381 = .ok (.if_icmp .eq 5, 3) := by decide +kernel
theorem dL_law_1384 : decode cL_law 1384 = .ok (.iconst 0, 1) := by decide +kernel
theorem dL_law_1385 : decode cL_law 1385 = .ok (.ireturn, 1) := by decide +kernel
theorem dL_law_1386 : decode cL_law 1386 = .ok (.iload 5, 2) := by decide +kernel
theorem dL_law_1388 : decode cL_law 1388 = .ok (.ifCond .ne 15, 3) := by decide +kernel
theorem dL_law_1391 : decode cL_law 1391 = .ok (.aload_n 3, 1) := by decide +kernel
theorem dL_law_1392 : decode cL_law 1392 = .ok (.iconst 0, 1) := by decide +kernel
theorem dL_law_1393 : decode cL_law 1393 = .ok (.laload, 1) := by decide +kernel
theorem dL_law_1394 : decode cL_law 1394 = .ok (.iload 6, 2) := by decide +kernel
theorem dL_law_1396 : decode cL_law 1396 = .ok (.i2l, 1) := by decide +kernel
theorem dL_law_1397 : decode cL_law 1397 = .ok (.lcmp, 1) := by decide +kernel
theorem dL_law_1398 : decode cL_law 1398 = .ok (.ifCond .eq 5, 3) := by decide +kernel
theorem dL_law_1401 : decode cL_law 1401 = .ok (.iconst 0, 1) := by decide +kernel
theorem dL_law_1402 : decode cL_law 1402 = .ok (.ireturn, 1) := by decide +kernel
theorem dL_law_1403 : decode cL_law 1403 = .ok (.goto 321, 3) := by decide +kernel
theorem dL_law_1406 : decode cL_law 1406 = .ok (.aload_n 1, 1) := by decide +kernel
theorem dL_law_1407 : decode cL_law 1407 = .ok (.invokevirtual 183, 3) := by decide +kernel
theorem dL_law_1410 : decode cL_law 1410 = .ok (.aload_n 2, 1) := by decide +kernel
theorem dL_law_1411 : decode cL_law 1411 = .ok (.invokevirtual 186, 3) := by decide +kernel
theorem dL_law_1414 : decode cL_law 1414 = .ok (.if_icmp .eq 310, 3) := by decide +kernel
theorem dL_law_1417 : decode cL_law 1417 = .ok (.iconst 0, 1) := by decide +kernel
theorem dL_law_1418 : decode cL_law 1418 = .ok (.ireturn, 1) := by decide +kernel
theorem dL_law_1419 : decode cL_law 1419 = .ok (.aload_n 1, 1) := by decide +kernel
theorem dL_law_1420 : decode cL_law 1420 = .ok (.aload_n 0, 1) := by decide +kernel
theorem dL_law_1421 : decode cL_law 1421 = .ok (.iload 4, 2) := by decide +kernel
theorem dL_law_1423 : decode cL_law 1423 = .ok (.iconst 1, 1) := by decide +kernel
theorem dL_law_1424 : decode cL_law 1424 = .ok (.iadd, 1) := by decide +kernel
theorem dL_law_1425 : decode cL_law 1425 = .ok (.iaload, 1) := by decide +kernel
theorem dL_law_1426 : decode cL_law 1426 = .ok (.aload_n 3, 1) := by decide +kernel
theorem dL_law_1427 : decode cL_law 1427 = .ok (.invokestatic 187, 3) := by decide +kernel
theorem dL_law_1430 : decode cL_law 1430 = .ok (.istore 5, 2) := by decide +kernel
theorem dL_law_1432 : decode cL_law 1432 = .ok (.aload_n 2, 1) := by decide +kernel
theorem dL_law_1433 : decode cL_law 1433 = .ok (.aload_n 0, 1) := by decide +kernel
theorem dL_law_1434 : decode cL_law 1434 = .ok (.iload 4, 2) := by decide +kernel
theorem dL_law_1436 : decode cL_law 1436 = .ok (.iconst 1, 1) := by decide +kernel
theorem dL_law_1437 : decode cL_law 1437 = .ok (.iadd, 1) := by decide +kernel
theorem dL_law_1438 : decode cL_law 1438 = .ok (.iaload, 1) := by decide +kernel
theorem dL_law_1439 : decode cL_law 1439 = .ok (.invokevirtual 189, 3) := by decide +kernel
theorem dL_law_1442 : decode cL_law 1442 = .ok (.istore 6, 2) := by decide +kernel
theorem dL_law_1444 : decode cL_law 1444 = .ok (.aload_n 2, 1) := by decide +kernel
theorem dL_law_1445 : decode cL_law 1445 = .ok (.invokevirtual 98, 3) := by decide +kernel
theorem dL_law_1448 : decode cL_law 1448 = .ok (.iload 5, 2) := by decide +kernel
theorem dL_law_1450 : decode cL_law 1450 = .ok (.if_icmp .eq 5, 3) := by decide +kernel
theorem dL_law_1453 : decode cL_law 1453 = .ok (.iconst 0, 1) := by decide +kernel
theorem dL_law_1454 : decode cL_law 1454 = .ok (.ireturn, 1) := by decide +kernel
theorem dL_law_1455 : decode cL_law 1455 = .ok (.iload 5, 2) := by decide +kernel
theorem dL_law_1457 : decode cL_law 1457 = .ok (.ifCond .ne 15, 3) := by decide +kernel
theorem dL_law_1460 : decode cL_law 1460 = .ok (.aload_n 3, 1) := by decide +kernel
theorem dL_law_1461 : decode cL_law 1461 = .ok (.iconst 0, 1) := by decide +kernel
theorem dL_law_1462 : decode cL_law 1462 = .ok (.laload, 1) := by decide +kernel
theorem dL_law_1463 : decode cL_law 1463 = .ok (.iload 6, 2) := by decide +kernel
theorem dL_law_1465 : decode cL_law 1465 = .ok (.i2l, 1) := by decide +kernel
theorem dL_law_1466 : decode cL_law 1466 = .ok (.lcmp, 1) := by decide +kernel
theorem dL_law_1467 : decode cL_law 1467 = .ok (.ifCond .eq 5, 3) := by decide +kernel
theorem dL_law_1470 : decode cL_law 1470 = .ok (.iconst 0, 1) := by decide +kernel
theorem dL_law_1471 : decode cL_law 1471 = .ok (.ireturn, 1) := by decide +kernel
theorem dL_law_1472 : decode cL_law 1472 = .ok (.goto 252, 3) := by decide +kernel
theorem dL_law_1475 : decode cL_law 1475 = .ok (.aload_n 1, 1) := by decide +kernel
theorem dL_law_1476 : decode cL_law 1476 = .ok (.aload_n 0, 1) := by decide +kernel
theorem dL_law_1477 : decode cL_law 1477 = .ok (.iload 4, 2) := by decide +kernel
theorem dL_law_1479 : decode cL_law 1479 = .ok (.iconst 1, 1) := by decide +kernel
theorem dL_law_1480 : decode cL_law 1480 = .ok (.iadd, 1) := by decide +kernel
theorem dL_law_1481 : decode cL_law 1481 = .ok (.iaload, 1) := by decide +kernel
theorem dL_law_1482 : decode cL_law 1482 = .ok (.aload_n 3, 1) := by decide +kernel
theorem dL_law_1483 : decode cL_law 1483 = .ok (.invokestatic 190, 3) := by decide +kernel
theorem dL_law_1486 : decode cL_law 1486 = .ok (.istore 5, 2) := by decide +kernel
theorem dL_law_1488 : decode cL_law 1488 = .ok (.aload_n 2, 1) := by decide +kernel
theorem dL_law_1489 : decode cL_law 1489 = .ok (.aload_n 0, 1) := by decide +kernel
theorem dL_law_1490 : decode cL_law 1490 = .ok (.iload 4, 2) := by decide +kernel
theorem dL_law_1492 : decode cL_law 1492 = .ok (.iconst 1, 1) := by decide +kernel
theorem dL_law_1493 : decode cL_law 1493 = .ok (.iadd, 1) := by decide +kernel
theorem dL_law_1494 : decode cL_law 1494 = .ok (.iaload, 1) := by decide +kernel
theorem dL_law_1495 : decode cL_law 1495 = .ok (.invokevirtual 192, 3) := by decide +kernel
theorem dL_law_1498 : decode cL_law 1498 = .ok (.istore 6, 2) := by decide +kernel
theorem dL_law_1500 : decode cL_law 1500 = .ok (.aload_n 2, 1) := by decide +kernel
theorem dL_law_1501 : decode cL_law 1501 = .ok (.invokevirtual 98, 3) := by decide +kernel
theorem dL_law_1504 : decode cL_law 1504 = .ok (.iload 5, 2) := by decide +kernel
theorem dL_law_1506 : decode cL_law 1506 = .ok (.if_icmp .eq 5, 3) := by decide +kernel
theorem dL_law_1509 : decode cL_law 1509 = .ok (.iconst 0, 1) := by decide +kernel
theorem dL_law_1510 : decode cL_law 1510 = .ok (.ireturn, 1) := by decide +kernel
theorem dL_law_1511 : decode cL_law 1511 = .ok (.iload 5, 2) := by decide +kernel
theorem dL_law_1513 : decode cL_law 1513 = .ok (.ifCond .ne 15, 3) := by decide +kernel
theorem dL_law_1516 : decode cL_law 1516 = .ok (.aload_n 3, 1) := by decide +kernel
theorem dL_law_1517 : decode cL_law 1517 = .ok (.iconst 0, 1) := by decide +kernel
theorem dL_law_1518 : decode cL_law 1518 = .ok (.laload, 1) := by decide +kernel
theorem dL_law_1519 : decode cL_law 1519 = .ok (.iload 6, 2) := by decide +kernel
theorem dL_law_1521 : decode cL_law 1521 = .ok (.i2l, 1) := by decide +kernel
theorem dL_law_1522 : decode cL_law 1522 = .ok (.lcmp, 1) := by decide +kernel
theorem dL_law_1523 : decode cL_law 1523 = .ok (.ifCond .eq 5, 3) := by decide +kernel
theorem dL_law_1526 : decode cL_law 1526 = .ok (.iconst 0, 1) := by decide +kernel
theorem dL_law_1527 : decode cL_law 1527 = .ok (.ireturn, 1) := by decide +kernel
theorem dL_law_1528 : decode cL_law 1528 = .ok (.goto 196, 3) := by decide +kernel
theorem dL_law_1531 : decode cL_law 1531 = .ok (.aload_n 1, 1) := by decide +kernel
theorem dL_law_1532 : decode cL_law 1532 = .ok (.aload_n 0, 1) := by decide +kernel
theorem dL_law_1533 : decode cL_law 1533 = .ok (.iload 4, 2) := by decide +kernel
theorem dL_law_1535 : decode cL_law 1535 = .ok (.iconst 1, 1) := by decide +kernel
theorem dL_law_1536 : decode cL_law 1536 = .ok (.iadd, 1) := by decide +kernel
theorem dL_law_1537 : decode cL_law 1537 = .ok (.iaload, 1) := by decide +kernel
theorem dL_law_1538 : decode cL_law 1538 = .ok (.aload_n 3, 1) := by decide +kernel
theorem dL_law_1539 : decode cL_law 1539 = .ok (.invokestatic 193, 3) := by decide +kernel
theorem dL_law_1542 : decode cL_law 1542 = .ok (.istore 5, 2) := by decide +kernel
theorem dL_law_1544 : decode cL_law 1544 = .ok (.aload_n 2, 1) := by decide +kernel
theorem dL_law_1545 : decode cL_law 1545 = .ok (.aload_n 0, 1) := by decide +kernel
theorem dL_law_1546 : decode cL_law 1546 = .ok (.iload 4, 2) := by decide +kernel
theorem dL_law_1548 : decode cL_law 1548 = .ok (.iconst 1, 1) := by decide +kernel
theorem dL_law_1549 : decode cL_law 1549 = .ok (.iadd, 1) := by decide +kernel
theorem dL_law_1550 : decode cL_law 1550 = .ok (.iaload, 1) := by decide +kernel
theorem dL_law_1551 : decode cL_law 1551 = .ok (.invokevirtual 195, 3) := by decide +kernel
theorem dL_law_1554 : decode cL_law 1554 = .ok (.istore 6, 2) := by decide +kernel
theorem dL_law_1556 : decode cL_law 1556 = .ok (.aload_n 2, 1) := by decide +kernel
theorem dL_law_1557 : decode cL_law 1557 = .ok (.invokevirtual 98, 3) := by decide +kernel
theorem dL_law_1560 : decode cL_law 1560 = .ok (.iload 5, 2) := by decide +kernel
theorem dL_law_1562 : decode cL_law 1562 = .ok (.if_icmp .eq 5, 3) := by decide +kernel
theorem dL_law_1565 : decode cL_law 1565 = .ok (.iconst 0, 1) := by decide +kernel
theorem dL_law_1566 : decode cL_law 1566 = .ok (.ireturn, 1) := by decide +kernel
theorem dL_law_1567 : decode cL_law 1567 = .ok (.iload 5, 2) := by decide +kernel
theorem dL_law_1569 : decode cL_law 1569 = .ok (.ifCond .ne 15, 3) := by decide +kernel
theorem dL_law_1572 : decode cL_law 1572 = .ok (.aload_n 3, 1) := by decide +kernel
theorem dL_law_1573 : decode cL_law 1573 = .ok (.iconst 0, 1) := by decide +kernel
theorem dL_law_1574 : decode cL_law 1574 = .ok (.laload, 1) := by decide +kernel
theorem dL_law_1575 : decode cL_law 1575 = .ok (.iload 6, 2) := by decide +kernel
theorem dL_law_1577 : decode cL_law 1577 = .ok (.i2l, 1) := by decide +kernel
theorem dL_law_1578 : decode cL_law 1578 = .ok (.lcmp, 1) := by decide +kernel
theorem dL_law_1579 : decode cL_law 1579 = .ok (.ifCond .eq 5, 3) := by decide +kernel
theorem dL_law_1582 : decode cL_law 1582 = .ok (.iconst 0, 1) := by decide +kernel
theorem dL_law_1583 : decode cL_law 1583 = .ok (.ireturn, 1) := by decide +kernel
theorem dL_law_1584 : decode cL_law 1584 = .ok (.goto 140, 3) := by decide +kernel
theorem dL_law_1587 : decode cL_law 1587 = .ok (.aload_n 1, 1) := by decide +kernel
theorem dL_law_1588 : decode cL_law 1588 = .ok (.aload_n 0, 1) := by decide +kernel
theorem dL_law_1589 : decode cL_law 1589 = .ok (.iload 4, 2) := by decide +kernel
theorem dL_law_1591 : decode cL_law 1591 = .ok (.iconst 1, 1) := by decide +kernel
theorem dL_law_1592 : decode cL_law 1592 = .ok (.iadd, 1) := by decide +kernel
theorem dL_law_1593 : decode cL_law 1593 = .ok (.iaload, 1) := by decide +kernel
theorem dL_law_1594 : decode cL_law 1594 = .ok (.aload_n 3, 1) := by decide +kernel
theorem dL_law_1595 : decode cL_law 1595 = .ok (.invokestatic 196, 3) := by decide +kernel
theorem dL_law_1598 : decode cL_law 1598 = .ok (.istore 5, 2) := by decide +kernel
theorem dL_law_1600 : decode cL_law 1600 = .ok (.aload_n 2, 1) := by decide +kernel
theorem dL_law_1601 : decode cL_law 1601 = .ok (.aload_n 0, 1) := by decide +kernel
theorem dL_law_1602 : decode cL_law 1602 = .ok (.iload 4, 2) := by decide +kernel
theorem dL_law_1604 : decode cL_law 1604 = .ok (.iconst 1, 1) := by decide +kernel
theorem dL_law_1605 : decode cL_law 1605 = .ok (.iadd, 1) := by decide +kernel
theorem dL_law_1606 : decode cL_law 1606 = .ok (.iaload, 1) := by decide +kernel
theorem dL_law_1607 : decode cL_law 1607 = .ok (.invokevirtual 198, 3) := by decide +kernel
theorem dL_law_1610 : decode cL_law 1610 = .ok (.istore 6, 2) := by decide +kernel
theorem dL_law_1612 : decode cL_law 1612 = .ok (.aload_n 2, 1) := by decide +kernel
theorem dL_law_1613 : decode cL_law 1613 = .ok (.invokevirtual 98, 3) := by decide +kernel
theorem dL_law_1616 : decode cL_law 1616 = .ok (.iload 5, 2) := by decide +kernel
theorem dL_law_1618 : decode cL_law 1618 = .ok (.if_icmp .eq 5, 3) := by decide +kernel
theorem dL_law_1621 : decode cL_law 1621 = .ok (.iconst 0, 1) := by decide +kernel
theorem dL_law_1622 : decode cL_law 1622 = .ok (.ireturn, 1) := by decide +kernel
theorem dL_law_1623 : decode cL_law 1623 = .ok (.iload 5, 2) := by decide +kernel
theorem dL_law_1625 : decode cL_law 1625 = .ok (.ifCond .ne 15, 3) := by decide +kernel
theorem dL_law_1628 : decode cL_law 1628 = .ok (.aload_n 3, 1) := by decide +kernel
theorem dL_law_1629 : decode cL_law 1629 = .ok (.iconst 0, 1) := by decide +kernel
theorem dL_law_1630 : decode cL_law 1630 = .ok (.laload, 1) := by decide +kernel
theorem dL_law_1631 : decode cL_law 1631 = .ok (.iload 6, 2) := by decide +kernel
theorem dL_law_1633 : decode cL_law 1633 = .ok (.i2l, 1) := by decide +kernel
theorem dL_law_1634 : decode cL_law 1634 = .ok (.lcmp, 1) := by decide +kernel
theorem dL_law_1635 : decode cL_law 1635 = .ok (.ifCond .eq 5, 3) := by decide +kernel
theorem dL_law_1638 : decode cL_law 1638 = .ok (.iconst 0, 1) := by decide +kernel
theorem dL_law_1639 : decode cL_law 1639 = .ok (.ireturn, 1) := by decide +kernel
theorem dL_law_1640 : decode cL_law 1640 = .ok (.goto 84, 3) := by decide +kernel
theorem dL_law_1643 : decode cL_law 1643 = .ok (.aload_n 1, 1) := by decide +kernel
theorem dL_law_1644 : decode cL_law 1644 = .ok (.invokevirtual 199, 3) := by decide +kernel
theorem dL_law_1647 : decode cL_law 1647 = .ok (.aload_n 2, 1) := by decide +kernel
theorem dL_law_1648 : decode cL_law 1648 = .ok (.invokevirtual 202, 3) := by decide +kernel
theorem dL_law_1651 : decode cL_law 1651 = .ok (.if_icmp .eq 73, 3) := by decide +kernel
theorem dL_law_1654 : decode cL_law 1654 = .ok (.iconst 0, 1) := by decide +kernel
theorem dL_law_1655 : decode cL_law 1655 = .ok (.ireturn, 1) := by decide +kernel
theorem dL_law_1656 : decode cL_law 1656 = .ok (.aload_n 1, 1) := by decide +kernel
theorem dL_law_1657 : decode cL_law 1657 = .ok (.invokevirtual 203, 3) := by decide +kernel
theorem dL_law_1660 : decode cL_law 1660 = .ok (.aload_n 2, 1) := by decide +kernel
theorem dL_law_1661 : decode cL_law 1661 = .ok (.invokevirtual 206, 3) := by decide +kernel
theorem dL_law_1664 : decode cL_law 1664 = .ok (.if_icmp .eq 60, 3) := by decide +kernel
theorem dL_law_1667 : decode cL_law 1667 = .ok (.iconst 0, 1) := by decide +kernel
theorem dL_law_1668 : decode cL_law 1668 = .ok (.ireturn, 1) := by decide +kernel
theorem dL_law_1669 : decode cL_law 1669 = .ok (.aload_n 1, 1) := by decide +kernel
theorem dL_law_1670 : decode cL_law 1670 = .ok (.invokevirtual 207, 3) := by decide +kernel
theorem dL_law_1673 : decode cL_law 1673 = .ok (.dstore 5, 2) := by decide +kernel
theorem dL_law_1675 : decode cL_law 1675 = .ok (.aload_n 2, 1) := by decide +kernel
theorem dL_law_1676 : decode cL_law 1676 = .ok (.invokevirtual 211, 3) := by decide +kernel
theorem dL_law_1679 : decode cL_law 1679 = .ok (.dstore 7, 2) := by decide +kernel
theorem dL_law_1681 : decode cL_law 1681 = .ok (.dload 5, 2) := by decide +kernel
theorem dL_law_1683 : decode cL_law 1683 = .ok (.dload 7, 2) := by decide +kernel
theorem dL_law_1685 : decode cL_law 1685 = .ok (.dcmp .l, 1) := by decide +kernel
theorem dL_law_1686 : decode cL_law 1686 = .ok (.ifCond .eq 21, 3) := by decide +kernel
theorem dL_law_1689 : decode cL_law 1689 = .ok (.dload 5, 2) := by decide +kernel
theorem dL_law_1691 : decode cL_law 1691 = .ok (.dload 5, 2) := by decide +kernel
theorem dL_law_1693 : decode cL_law 1693 = .ok (.dcmp .l, 1) := by decide +kernel
theorem dL_law_1694 : decode cL_law 1694 = .ok (.ifCond .eq 11, 3) := by decide +kernel
theorem dL_law_1697 : decode cL_law 1697 = .ok (.dload 7, 2) := by decide +kernel
theorem dL_law_1699 : decode cL_law 1699 = .ok (.dload 7, 2) := by decide +kernel
theorem dL_law_1701 : decode cL_law 1701 = .ok (.dcmp .l, 1) := by decide +kernel
theorem dL_law_1702 : decode cL_law 1702 = .ok (.ifCond .ne 5, 3) := by decide +kernel
theorem dL_law_1705 : decode cL_law 1705 = .ok (.iconst 0, 1) := by decide +kernel
theorem dL_law_1706 : decode cL_law 1706 = .ok (.ireturn, 1) := by decide +kernel
theorem dL_law_1707 : decode cL_law 1707 = .ok (.goto 17, 3) := by decide +kernel
theorem dL_law_1710 : decode cL_law 1710 = .ok (.aload_n 1, 1) := by decide +kernel
theorem dL_law_1711 : decode cL_law 1711 = .ok (.invokevirtual 212, 3) := by decide +kernel
theorem dL_law_1714 : decode cL_law 1714 = .ok (.aload_n 2, 1) := by decide +kernel
theorem dL_law_1715 : decode cL_law 1715 = .ok (.invokevirtual 216, 3) := by decide +kernel
theorem dL_law_1718 : decode cL_law 1718 = .ok (.lcmp, 1) := by decide +kernel
theorem dL_law_1719 : decode cL_law 1719 = .ok (.ifCond .eq 5, 3) := by decide +kernel
theorem dL_law_1722 : decode cL_law 1722 = .ok (.iconst 0, 1) := by decide +kernel
theorem dL_law_1723 : decode cL_law 1723 = .ok (.ireturn, 1) := by decide +kernel
theorem dL_law_1724 : decode cL_law 1724 = .ok (.iinc 4 4, 3) := by decide +kernel
theorem dL_law_1727 : decode cL_law 1727 = .ok (.goto (-1704), 3) := by decide +kernel
theorem dL_law_1730 : decode cL_law 1730 = .ok (.iconst 1, 1) := by decide +kernel
theorem dL_law_1731 : decode cL_law 1731 = .ok (.ireturn, 1) := by decide +kernel

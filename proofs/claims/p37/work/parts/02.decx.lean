theorem dX0_init_0 : decode cX0_init 0 = .ok (.aload_n 0, 1) := by decide +kernel
theorem dX0_init_1 : decode cX0_init 1 = .ok (.invokespecial 3, 3) := by decide +kernel
theorem dX0_init_4 : decode cX0_init 4 = .ok (.aload_n 0, 1) := by decide +kernel
theorem dX0_init_5 : decode cX0_init 5 = .ok (.getstatic 9, 3) := by decide +kernel
theorem dX0_init_8 : decode cX0_init 8 = .ok (.putfield 15, 3) := by decide +kernel
theorem dX0_init_11 : decode cX0_init 11 = .ok (.aload_n 0, 1) := by decide +kernel
theorem dX0_init_12 : decode cX0_init 12 = .ok (.aconst_null, 1) := by decide +kernel
theorem dX0_init_13 : decode cX0_init 13 = .ok (.putfield 20, 3) := by decide +kernel
theorem dX0_init_16 : decode cX0_init 16 = .ok (.aload_n 0, 1) := by decide +kernel
theorem dX0_init_17 : decode cX0_init 17 = .ok (.iconst 0, 1) := by decide +kernel
theorem dX0_init_18 : decode cX0_init 18 = .ok (.putfield 24, 3) := by decide +kernel
theorem dX0_init_21 : decode cX0_init 21 = .ok (.aload_n 0, 1) := by decide +kernel
theorem dX0_init_22 : decode cX0_init 22 = .ok (.iconst 0, 1) := by decide +kernel
theorem dX0_init_23 : decode cX0_init 23 = .ok (.putfield 28, 3) := by decide +kernel
theorem dX0_init_26 : decode cX0_init 26 = .ok (.aload_n 0, 1) := by decide +kernel
theorem dX0_init_27 : decode cX0_init 27 = .ok (.iconst 0, 1) := by decide +kernel
theorem dX0_init_28 : decode cX0_init 28 = .ok (.putfield 31, 3) := by decide +kernel
theorem dX0_init_31 : decode cX0_init 31 = .ok (.aload_n 0, 1) := by decide +kernel
theorem dX0_init_32 : decode cX0_init 32 = .ok (.iconst 0, 1) := by decide +kernel
theorem dX0_init_33 : decode cX0_init 33 = .ok (.putfield 34, 3) := by decide +kernel
theorem dX0_init_36 : decode cX0_init 36 = .ok (.return_, 1) := by decide +kernel
theorem dX0_layAnew_0 : decode cX0_layAnew 0 = .ok (.aload_n 0, 1) := by decide +kernel
theorem dX0_layAnew_1 : decode cX0_layAnew 1 = .ok (.getstatic 37, 3) := by decide +kernel
theorem dX0_layAnew_4 : decode cX0_layAnew 4 = .ok (.putfield 15, 3) := by decide +kernel
theorem dX0_layAnew_7 : decode cX0_layAnew 7 = .ok (.aload_n 0, 1) := by decide +kernel
theorem dX0_layAnew_8 : decode cX0_layAnew 8 = .ok (.aload_n 3, 1) := by decide +kernel
theorem dX0_layAnew_9 : decode cX0_layAnew 9 = .ok (.putfield 20, 3) := by decide +kernel
theorem dX0_layAnew_12 : decode cX0_layAnew 12 = .ok (.aload_n 0, 1) := by decide +kernel
theorem dX0_layAnew_13 : decode cX0_layAnew 13 = .ok (.iload_n 1, 1) := by decide +kernel
theorem dX0_layAnew_14 : decode cX0_layAnew 14 = .ok (.putfield 24, 3) := by decide +kernel
theorem dX0_layAnew_17 : decode cX0_layAnew 17 = .ok (.aload_n 0, 1) := by decide +kernel
theorem dX0_layAnew_18 : decode cX0_layAnew 18 = .ok (.iload_n 2, 1) := by decide +kernel
theorem dX0_layAnew_19 : decode cX0_layAnew 19 = .ok (.putfield 28, 3) := by decide +kernel
theorem dX0_layAnew_22 : decode cX0_layAnew 22 = .ok (.aload_n 0, 1) := by decide +kernel
theorem dX0_layAnew_23 : decode cX0_layAnew 23 = .ok (.iconst 0, 1) := by decide +kernel
theorem dX0_layAnew_24 : decode cX0_layAnew 24 = .ok (.putfield 31, 3) := by decide +kernel
theorem dX0_layAnew_27 : decode cX0_layAnew 27 = .ok (.aload_n 0, 1) := by decide +kernel
theorem dX0_layAnew_28 : decode cX0_layAnew 28 = .ok (.bipush 20, 2) := by decide +kernel
theorem dX0_layAnew_30 : decode cX0_layAnew 30 = .ok (.putfield 34, 3) := by decide +kernel
theorem dX0_layAnew_33 : decode cX0_layAnew 33 = .ok (.return_, 1) := by decide +kernel
theorem dX0_becomeLike_0 : decode cX0_becomeLike 0 = .ok (.aload_n 0, 1) := by decide +kernel
theorem dX0_becomeLike_1 : decode cX0_becomeLike 1 = .ok (.aload_n 1, 1) := by decide +kernel
theorem dX0_becomeLike_2 : decode cX0_becomeLike 2 = .ok (.getfield 15, 3) := by decide +kernel
theorem dX0_becomeLike_5 : decode cX0_becomeLike 5 = .ok (.putfield 15, 3) := by decide +kernel
theorem dX0_becomeLike_8 : decode cX0_becomeLike 8 = .ok (.aload_n 0, 1) := by decide +kernel
theorem dX0_becomeLike_9 : decode cX0_becomeLike 9 = .ok (.aload_n 2, 1) := by decide +kernel
theorem dX0_becomeLike_10 : decode cX0_becomeLike 10 = .ok (.putfield 20, 3) := by decide +kernel
theorem dX0_becomeLike_13 : decode cX0_becomeLike 13 = .ok (.aload_n 0, 1) := by decide +kernel
theorem dX0_becomeLike_14 : decode cX0_becomeLike 14 = .ok (.aload_n 1, 1) := by decide +kernel
theorem dX0_becomeLike_15 : decode cX0_becomeLike 15 = .ok (.getfield 24, 3) := by decide +kernel
theorem dX0_becomeLike_18 : decode cX0_becomeLike 18 = .ok (.putfield 24, 3) := by decide +kernel
theorem dX0_becomeLike_21 : decode cX0_becomeLike 21 = .ok (.aload_n 0, 1) := by decide +kernel
theorem dX0_becomeLike_22 : decode cX0_becomeLike 22 = .ok (.aload_n 1, 1) := by decide +kernel
theorem dX0_becomeLike_23 : decode cX0_becomeLike 23 = .ok (.getfield 28, 3) := by decide +kernel
theorem dX0_becomeLike_26 : decode cX0_becomeLike 26 = .ok (.putfield 28, 3) := by decide +kernel
theorem dX0_becomeLike_29 : decode cX0_becomeLike 29 = .ok (.aload_n 0, 1) := by decide +kernel
theorem dX0_becomeLike_30 : decode cX0_becomeLike 30 = .ok (.aload_n 1, 1) := by decide +kernel
theorem dX0_becomeLike_31 : decode cX0_becomeLike 31 = .ok (.getfield 31, 3) := by decide +kernel
theorem dX0_becomeLike_34 : decode cX0_becomeLike 34 = .ok (.putfield 31, 3) := by decide +kernel
theorem dX0_becomeLike_37 : decode cX0_becomeLike 37 = .ok (.aload_n 0, 1) := by decide +kernel
theorem dX0_becomeLike_38 : decode cX0_becomeLike 38 = .ok (.aload_n 1, 1) := by decide +kernel
theorem dX0_becomeLike_39 : decode cX0_becomeLike 39 = .ok (.getfield 34, 3) := by decide +kernel
theorem dX0_becomeLike_42 : decode cX0_becomeLike 42 = .ok (.putfield 34, 3) := by decide +kernel
theorem dX0_becomeLike_45 : decode cX0_becomeLike 45 = .ok (.return_, 1) := by decide +kernel
theorem dX0_leaveAs_0 : decode cX0_leaveAs 0 = .ok (.aload_n 0, 1) := by decide +kernel
theorem dX0_leaveAs_1 : decode cX0_leaveAs 1 = .ok (.aload_n 1, 1) := by decide +kernel
theorem dX0_leaveAs_2 : decode cX0_leaveAs 2 = .ok (.putfield 15, 3) := by decide +kernel
theorem dX0_leaveAs_5 : decode cX0_leaveAs 5 = .ok (.aload_n 0, 1) := by decide +kernel
theorem dX0_leaveAs_6 : decode cX0_leaveAs 6 = .ok (.aconst_null, 1) := by decide +kernel
theorem dX0_leaveAs_7 : decode cX0_leaveAs 7 = .ok (.putfield 20, 3) := by decide +kernel
theorem dX0_leaveAs_10 : decode cX0_leaveAs 10 = .ok (.return_, 1) := by decide +kernel
theorem dX0_liveAnHour_0 : decode cX0_liveAnHour 0 = .ok (.aload_n 0, 1) := by decide +kernel
theorem dX0_liveAnHour_1 : decode cX0_liveAnHour 1 = .ok (.getfield 20, 3) := by decide +kernel
theorem dX0_liveAnHour_4 : decode cX0_liveAnHour 4 = .ok (.ifnonnull 5, 3) := by decide +kernel
theorem dX0_liveAnHour_7 : decode cX0_liveAnHour 7 = .ok (.iconst 0, 1) := by decide +kernel
theorem dX0_liveAnHour_8 : decode cX0_liveAnHour 8 = .ok (.ireturn, 1) := by decide +kernel
theorem dX0_liveAnHour_9 : decode cX0_liveAnHour 9 = .ok (.aload_n 0, 1) := by decide +kernel
theorem dX0_liveAnHour_10 : decode cX0_liveAnHour 10 = .ok (.aload_n 0, 1) := by decide +kernel
theorem dX0_liveAnHour_11 : decode cX0_liveAnHour 11 = .ok (.getfield 20, 3) := by decide +kernel
theorem dX0_liveAnHour_14 : decode cX0_liveAnHour 14 = .ok (.getfield 40, 3) := by decide +kernel
theorem dX0_liveAnHour_17 : decode cX0_liveAnHour 17 = .ok (.invokevirtual 43, 3) := by decide +kernel
theorem dX0_liveAnHour_20 : decode cX0_liveAnHour 20 = .ok (.aload_n 0, 1) := by decide +kernel
theorem dX0_liveAnHour_21 : decode cX0_liveAnHour 21 = .ok (.getfield 15, 3) := by decide +kernel
theorem dX0_liveAnHour_24 : decode cX0_liveAnHour 24 = .ok (.getstatic 47, 3) := by decide +kernel
theorem dX0_liveAnHour_27 : decode cX0_liveAnHour 27 = .ok (.if_acmp .ne 16, 3) := by decide +kernel
theorem dX0_liveAnHour_30 : decode cX0_liveAnHour 30 = .ok (.aload_n 0, 1) := by decide +kernel
theorem dX0_liveAnHour_31 : decode cX0_liveAnHour 31 = .ok (.getfield 34, 3) := by decide +kernel
theorem dX0_liveAnHour_34 : decode cX0_liveAnHour 34 = .ok (.bipush (-4), 2) := by decide +kernel
theorem dX0_liveAnHour_36 : decode cX0_liveAnHour 36 = .ok (.if_icmp .le 7, 3) := by decide +kernel
theorem dX0_liveAnHour_39 : decode cX0_liveAnHour 39 = .ok (.iconst 1, 1) := by decide +kernel
theorem dX0_liveAnHour_40 : decode cX0_liveAnHour 40 = .ok (.goto 4, 3) := by decide +kernel
theorem dX0_liveAnHour_43 : decode cX0_liveAnHour 43 = .ok (.iconst 0, 1) := by decide +kernel
theorem dX0_liveAnHour_44 : decode cX0_liveAnHour 44 = .ok (.istore_n 1, 1) := by decide +kernel
theorem dX0_liveAnHour_45 : decode cX0_liveAnHour 45 = .ok (.iload_n 1, 1) := by decide +kernel
theorem dX0_liveAnHour_46 : decode cX0_liveAnHour 46 = .ok (.ifCond .eq 13, 3) := by decide +kernel
theorem dX0_liveAnHour_49 : decode cX0_liveAnHour 49 = .ok (.aload_n 0, 1) := by decide +kernel
theorem dX0_liveAnHour_50 : decode cX0_liveAnHour 50 = .ok (.getstatic 50, 3) := by decide +kernel
theorem dX0_liveAnHour_53 : decode cX0_liveAnHour 53 = .ok (.putfield 15, 3) := by decide +kernel
theorem dX0_liveAnHour_56 : decode cX0_liveAnHour 56 = .ok (.goto 29, 3) := by decide +kernel
theorem dX0_liveAnHour_59 : decode cX0_liveAnHour 59 = .ok (.aload_n 0, 1) := by decide +kernel
theorem dX0_liveAnHour_60 : decode cX0_liveAnHour 60 = .ok (.getfield 15, 3) := by decide +kernel
theorem dX0_liveAnHour_63 : decode cX0_liveAnHour 63 = .ok (.getstatic 37, 3) := by decide +kernel
theorem dX0_liveAnHour_66 : decode cX0_liveAnHour 66 = .ok (.if_acmp .ne 19, 3) := by decide +kernel
theorem dX0_liveAnHour_69 : decode cX0_liveAnHour 69 = .ok (.aload_n 0, 1) := by decide +kernel
theorem dX0_liveAnHour_70 : decode cX0_liveAnHour 70 = .ok (.getfield 34, 3) := by decide +kernel
theorem dX0_liveAnHour_73 : decode cX0_liveAnHour 73 = .ok (.bipush (-10), 2) := by decide +kernel
theorem dX0_liveAnHour_75 : decode cX0_liveAnHour 75 = .ok (.if_icmp .gt 10, 3) := by decide +kernel
theorem dX0_liveAnHour_78 : decode cX0_liveAnHour 78 = .ok (.aload_n 0, 1) := by decide +kernel
theorem dX0_liveAnHour_79 : decode cX0_liveAnHour 79 = .ok (.getstatic 47, 3) := by decide +kernel
theorem dX0_liveAnHour_82 : decode cX0_liveAnHour 82 = .ok (.putfield 15, 3) := by decide +kernel
theorem dX0_liveAnHour_85 : decode cX0_liveAnHour 85 = .ok (.aload_n 0, 1) := by decide +kernel
theorem dX0_liveAnHour_86 : decode cX0_liveAnHour 86 = .ok (.getfield 15, 3) := by decide +kernel
theorem dX0_liveAnHour_89 : decode cX0_liveAnHour 89 = .ok (.getstatic 47, 3) := by decide +kernel
theorem dX0_liveAnHour_92 : decode cX0_liveAnHour 92 = .ok (.if_acmp .eq 31, 3) := by decide +kernel
theorem dX0_liveAnHour_95 : decode cX0_liveAnHour 95 = .ok (.aload_n 0, 1) := by decide +kernel
theorem dX0_liveAnHour_96 : decode cX0_liveAnHour 96 = .ok (.dup, 1) := by decide +kernel
theorem dX0_liveAnHour_97 : decode cX0_liveAnHour 97 = .ok (.getfield 31, 3) := by decide +kernel
theorem dX0_liveAnHour_100 : decode cX0_liveAnHour 100 = .ok (.iconst 1, 1) := by decide +kernel
theorem dX0_liveAnHour_101 : decode cX0_liveAnHour 101 = .ok (.iadd, 1) := by decide +kernel
theorem dX0_liveAnHour_102 : decode cX0_liveAnHour 102 = .ok (.putfield 31, 3) := by decide +kernel
theorem dX0_liveAnHour_105 : decode cX0_liveAnHour 105 = .ok (.aload_n 0, 1) := by decide +kernel
theorem dX0_liveAnHour_106 : decode cX0_liveAnHour 106 = .ok (.getfield 31, 3) := by decide +kernel
theorem dX0_liveAnHour_109 : decode cX0_liveAnHour 109 = .ok (.aload_n 0, 1) := by decide +kernel
theorem dX0_liveAnHour_110 : decode cX0_liveAnHour 110 = .ok (.getfield 28, 3) := by decide +kernel
theorem dX0_liveAnHour_113 : decode cX0_liveAnHour 113 = .ok (.if_icmp .lt 10, 3) := by decide +kernel
theorem dX0_liveAnHour_116 : decode cX0_liveAnHour 116 = .ok (.aload_n 0, 1) := by decide +kernel
theorem dX0_liveAnHour_117 : decode cX0_liveAnHour 117 = .ok (.getstatic 53, 3) := by decide +kernel
theorem dX0_liveAnHour_120 : decode cX0_liveAnHour 120 = .ok (.invokevirtual 56, 3) := by decide +kernel
theorem dX0_liveAnHour_123 : decode cX0_liveAnHour 123 = .ok (.iload_n 1, 1) := by decide +kernel
theorem dX0_liveAnHour_124 : decode cX0_liveAnHour 124 = .ok (.ireturn, 1) := by decide +kernel
theorem dX0_drawNearTo_0 : decode cX0_drawNearTo 0 = .ok (.iload_n 1, 1) := by decide +kernel
theorem dX0_drawNearTo_1 : decode cX0_drawNearTo 1 = .ok (.aload_n 0, 1) := by decide +kernel
theorem dX0_drawNearTo_2 : decode cX0_drawNearTo 2 = .ok (.getfield 34, 3) := by decide +kernel
theorem dX0_drawNearTo_5 : decode cX0_drawNearTo 5 = .ok (.isub, 1) := by decide +kernel
theorem dX0_drawNearTo_6 : decode cX0_drawNearTo 6 = .ok (.istore_n 2, 1) := by decide +kernel
theorem dX0_drawNearTo_7 : decode cX0_drawNearTo 7 = .ok (.iload_n 2, 1) := by decide +kernel
theorem dX0_drawNearTo_8 : decode cX0_drawNearTo 8 = .ok (.iconst 2, 1) := by decide +kernel
theorem dX0_drawNearTo_9 : decode cX0_drawNearTo 9 = .ok (.idiv, 1) := by decide +kernel
theorem dX0_drawNearTo_10 : decode cX0_drawNearTo 10 = .ok (.istore_n 3, 1) := by decide +kernel
theorem dX0_drawNearTo_11 : decode cX0_drawNearTo 11 = .ok (.aload_n 0, 1) := by decide +kernel
theorem dX0_drawNearTo_12 : decode cX0_drawNearTo 12 = .ok (.dup, 1) := by decide +kernel
theorem dX0_drawNearTo_13 : decode cX0_drawNearTo 13 = .ok (.getfield 34, 3) := by decide +kernel
theorem dX0_drawNearTo_16 : decode cX0_drawNearTo 16 = .ok (.iload_n 3, 1) := by decide +kernel
theorem dX0_drawNearTo_17 : decode cX0_drawNearTo 17 = .ok (.ifCond .ne 7, 3) := by decide +kernel
theorem dX0_drawNearTo_20 : decode cX0_drawNearTo 20 = .ok (.iload_n 2, 1) := by decide +kernel
theorem dX0_drawNearTo_21 : decode cX0_drawNearTo 21 = .ok (.goto 4, 3) := by decide +kernel
theorem dX0_drawNearTo_24 : decode cX0_drawNearTo 24 = .ok (.iload_n 3, 1) := by decide +kernel
theorem dX0_drawNearTo_25 : decode cX0_drawNearTo 25 = .ok (.iadd, 1) := by decide +kernel
theorem dX0_drawNearTo_26 : decode cX0_drawNearTo 26 = .ok (.putfield 34, 3) := by decide +kernel
theorem dX0_drawNearTo_29 : decode cX0_drawNearTo 29 = .ok (.return_, 1) := by decide +kernel
theorem dX1_init_0 : decode cX1_init 0 = .ok (.aload_n 0, 1) := by decide +kernel
theorem dX1_init_1 : decode cX1_init 1 = .ok (.invokespecial 3, 3) := by decide +kernel
theorem dX1_init_4 : decode cX1_init 4 = .ok (.aload_n 0, 1) := by decide +kernel
theorem dX1_init_5 : decode cX1_init 5 = .ok (.bipush (-18), 2) := by decide +kernel
theorem dX1_init_7 : decode cX1_init 7 = .ok (.putfield 9, 3) := by decide +kernel
theorem dX1_init_10 : decode cX1_init 10 = .ok (.aload_n 0, 1) := by decide +kernel
theorem dX1_init_11 : decode cX1_init 11 = .ok (.bipush (-18), 2) := by decide +kernel
theorem dX1_init_13 : decode cX1_init 13 = .ok (.putfield 15, 3) := by decide +kernel
theorem dX1_init_16 : decode cX1_init 16 = .ok (.aload_n 0, 1) := by decide +kernel
theorem dX1_init_17 : decode cX1_init 17 = .ok (.iload_n 1, 1) := by decide +kernel
theorem dX1_init_18 : decode cX1_init 18 = .ok (.putfield 18, 3) := by decide +kernel
theorem dX1_init_21 : decode cX1_init 21 = .ok (.return_, 1) := by decide +kernel
theorem dX1_openDoor_0 : decode cX1_openDoor 0 = .ok (.aload_n 0, 1) := by decide +kernel
theorem dX1_openDoor_1 : decode cX1_openDoor 1 = .ok (.aload_n 0, 1) := by decide +kernel
theorem dX1_openDoor_2 : decode cX1_openDoor 2 = .ok (.getfield 15, 3) := by decide +kernel
theorem dX1_openDoor_5 : decode cX1_openDoor 5 = .ok (.iconst 2, 1) := by decide +kernel
theorem dX1_openDoor_6 : decode cX1_openDoor 6 = .ok (.iadd, 1) := by decide +kernel
theorem dX1_openDoor_7 : decode cX1_openDoor 7 = .ok (.bipush 20, 2) := by decide +kernel
theorem dX1_openDoor_9 : decode cX1_openDoor 9 = .ok (.invokestatic 21, 3) := by decide +kernel
theorem dX1_openDoor_12 : decode cX1_openDoor 12 = .ok (.putfield 15, 3) := by decide +kernel
theorem dX1_openDoor_15 : decode cX1_openDoor 15 = .ok (.return_, 1) := by decide +kernel
theorem dX1_liveAnHour_0 : decode cX1_liveAnHour 0 = .ok (.iload_n 1, 1) := by decide +kernel
theorem dX1_liveAnHour_1 : decode cX1_liveAnHour 1 = .ok (.ifCond .ne 21, 3) := by decide +kernel
theorem dX1_liveAnHour_4 : decode cX1_liveAnHour 4 = .ok (.aload_n 0, 1) := by decide +kernel
theorem dX1_liveAnHour_5 : decode cX1_liveAnHour 5 = .ok (.aload_n 0, 1) := by decide +kernel
theorem dX1_liveAnHour_6 : decode cX1_liveAnHour 6 = .ok (.getfield 15, 3) := by decide +kernel
theorem dX1_liveAnHour_9 : decode cX1_liveAnHour 9 = .ok (.iconst 1, 1) := by decide +kernel
theorem dX1_liveAnHour_10 : decode cX1_liveAnHour 10 = .ok (.iadd, 1) := by decide +kernel
theorem dX1_liveAnHour_11 : decode cX1_liveAnHour 11 = .ok (.bipush 20, 2) := by decide +kernel
theorem dX1_liveAnHour_13 : decode cX1_liveAnHour 13 = .ok (.invokestatic 21, 3) := by decide +kernel
theorem dX1_liveAnHour_16 : decode cX1_liveAnHour 16 = .ok (.putfield 15, 3) := by decide +kernel
theorem dX1_liveAnHour_19 : decode cX1_liveAnHour 19 = .ok (.goto 51, 3) := by decide +kernel
theorem dX1_liveAnHour_22 : decode cX1_liveAnHour 22 = .ok (.aload_n 0, 1) := by decide +kernel
theorem dX1_liveAnHour_23 : decode cX1_liveAnHour 23 = .ok (.getfield 15, 3) := by decide +kernel
theorem dX1_liveAnHour_26 : decode cX1_liveAnHour 26 = .ok (.aload_n 0, 1) := by decide +kernel
theorem dX1_liveAnHour_27 : decode cX1_liveAnHour 27 = .ok (.getfield 9, 3) := by decide +kernel
theorem dX1_liveAnHour_30 : decode cX1_liveAnHour 30 = .ok (.if_icmp .ge 23, 3) := by decide +kernel
theorem dX1_liveAnHour_33 : decode cX1_liveAnHour 33 = .ok (.aload_n 0, 1) := by decide +kernel
theorem dX1_liveAnHour_34 : decode cX1_liveAnHour 34 = .ok (.aload_n 0, 1) := by decide +kernel
theorem dX1_liveAnHour_35 : decode cX1_liveAnHour 35 = .ok (.getfield 15, 3) := by decide +kernel
theorem dX1_liveAnHour_38 : decode cX1_liveAnHour 38 = .ok (.iconst 2, 1) := by decide +kernel
theorem dX1_liveAnHour_39 : decode cX1_liveAnHour 39 = .ok (.iadd, 1) := by decide +kernel
theorem dX1_liveAnHour_40 : decode cX1_liveAnHour 40 = .ok (.aload_n 0, 1) := by decide +kernel
theorem dX1_liveAnHour_41 : decode cX1_liveAnHour 41 = .ok (.getfield 9, 3) := by decide +kernel
theorem dX1_liveAnHour_44 : decode cX1_liveAnHour 44 = .ok (.invokestatic 21, 3) := by decide +kernel
theorem dX1_liveAnHour_47 : decode cX1_liveAnHour 47 = .ok (.putfield 15, 3) := by decide +kernel
theorem dX1_liveAnHour_50 : decode cX1_liveAnHour 50 = .ok (.goto 20, 3) := by decide +kernel
theorem dX1_liveAnHour_53 : decode cX1_liveAnHour 53 = .ok (.aload_n 0, 1) := by decide +kernel
theorem dX1_liveAnHour_54 : decode cX1_liveAnHour 54 = .ok (.aload_n 0, 1) := by decide +kernel
theorem dX1_liveAnHour_55 : decode cX1_liveAnHour 55 = .ok (.getfield 15, 3) := by decide +kernel
theorem dX1_liveAnHour_58 : decode cX1_liveAnHour 58 = .ok (.iconst 2, 1) := by decide +kernel
theorem dX1_liveAnHour_59 : decode cX1_liveAnHour 59 = .ok (.isub, 1) := by decide +kernel
theorem dX1_liveAnHour_60 : decode cX1_liveAnHour 60 = .ok (.aload_n 0, 1) := by decide +kernel
theorem dX1_liveAnHour_61 : decode cX1_liveAnHour 61 = .ok (.getfield 9, 3) := by decide +kernel
theorem dX1_liveAnHour_64 : decode cX1_liveAnHour 64 = .ok (.invokestatic 27, 3) := by decide +kernel
theorem dX1_liveAnHour_67 : decode cX1_liveAnHour 67 = .ok (.putfield 15, 3) := by decide +kernel
theorem dX1_liveAnHour_70 : decode cX1_liveAnHour 70 = .ok (.return_, 1) := by decide +kernel
theorem dX1_becomeLike_0 : decode cX1_becomeLike 0 = .ok (.aload_n 0, 1) := by decide +kernel
theorem dX1_becomeLike_1 : decode cX1_becomeLike 1 = .ok (.aload_n 1, 1) := by decide +kernel
theorem dX1_becomeLike_2 : decode cX1_becomeLike 2 = .ok (.getfield 9, 3) := by decide +kernel
theorem dX1_becomeLike_5 : decode cX1_becomeLike 5 = .ok (.putfield 9, 3) := by decide +kernel
theorem dX1_becomeLike_8 : decode cX1_becomeLike 8 = .ok (.aload_n 0, 1) := by decide +kernel
theorem dX1_becomeLike_9 : decode cX1_becomeLike 9 = .ok (.aload_n 1, 1) := by decide +kernel
theorem dX1_becomeLike_10 : decode cX1_becomeLike 10 = .ok (.getfield 15, 3) := by decide +kernel
theorem dX1_becomeLike_13 : decode cX1_becomeLike 13 = .ok (.putfield 15, 3) := by decide +kernel
theorem dX1_becomeLike_16 : decode cX1_becomeLike 16 = .ok (.return_, 1) := by decide +kernel
theorem dX3_init_0 : decode cX3_init 0 = .ok (.aload_n 0, 1) := by decide +kernel
theorem dX3_init_1 : decode cX3_init 1 = .ok (.invokespecial 1, 3) := by decide +kernel
theorem dX3_init_4 : decode cX3_init 4 = .ok (.aload_n 0, 1) := by decide +kernel
theorem dX3_init_5 : decode cX3_init 5 = .ok (.iconst 5, 1) := by decide +kernel
theorem dX3_init_6 : decode cX3_init 6 = .ok (.anewarray 9, 3) := by decide +kernel
theorem dX3_init_9 : decode cX3_init 9 = .ok (.putfield 11, 3) := by decide +kernel
theorem dX3_init_12 : decode cX3_init 12 = .ok (.aload_n 0, 1) := by decide +kernel
theorem dX3_init_13 : decode cX3_init 13 = .ok (.bipush 20, 2) := by decide +kernel
theorem dX3_init_15 : decode cX3_init 15 = .ok (.anewarray 15, 3) := by decide +kernel
theorem dX3_init_18 : decode cX3_init 18 = .ok (.putfield 17, 3) := by decide +kernel
theorem dX3_init_21 : decode cX3_init 21 = .ok (.aload_n 0, 1) := by decide +kernel
theorem dX3_init_22 : decode cX3_init 22 = .ok (.iconst 0, 1) := by decide +kernel
theorem dX3_init_23 : decode cX3_init 23 = .ok (.putfield 21, 3) := by decide +kernel
theorem dX3_init_26 : decode cX3_init 26 = .ok (.aload_n 0, 1) := by decide +kernel
theorem dX3_init_27 : decode cX3_init 27 = .ok (.iconst 0, 1) := by decide +kernel
theorem dX3_init_28 : decode cX3_init 28 = .ok (.putfield 25, 3) := by decide +kernel
theorem dX3_init_31 : decode cX3_init 31 = .ok (.aload_n 0, 1) := by decide +kernel
theorem dX3_init_32 : decode cX3_init 32 = .ok (.iconst 0, 1) := by decide +kernel
theorem dX3_init_33 : decode cX3_init 33 = .ok (.putfield 28, 3) := by decide +kernel
theorem dX3_init_36 : decode cX3_init 36 = .ok (.aload_n 0, 1) := by decide +kernel
theorem dX3_init_37 : decode cX3_init 37 = .ok (.iconst 1, 1) := by decide +kernel
theorem dX3_init_38 : decode cX3_init 38 = .ok (.putfield 31, 3) := by decide +kernel
theorem dX3_init_41 : decode cX3_init 41 = .ok (.aload_n 0, 1) := by decide +kernel
theorem dX3_init_42 : decode cX3_init 42 = .ok (.new 9, 3) := by decide +kernel
theorem dX3_init_45 : decode cX3_init 45 = .ok (.dup, 1) := by decide +kernel
theorem dX3_init_46 : decode cX3_init 46 = .ok (.iconst (-1), 1) := by decide +kernel
theorem dX3_init_47 : decode cX3_init 47 = .ok (.invokespecial 35, 3) := by decide +kernel
theorem dX3_init_50 : decode cX3_init 50 = .ok (.putfield 38, 3) := by decide +kernel
theorem dX3_init_53 : decode cX3_init 53 = .ok (.aload_n 0, 1) := by decide +kernel
theorem dX3_init_54 : decode cX3_init 54 = .ok (.new 15, 3) := by decide +kernel
theorem dX3_init_57 : decode cX3_init 57 = .ok (.dup, 1) := by decide +kernel
theorem dX3_init_58 : decode cX3_init 58 = .ok (.invokespecial 42, 3) := by decide +kernel
theorem dX3_init_61 : decode cX3_init 61 = .ok (.putfield 43, 3) := by decide +kernel
theorem dX3_init_64 : decode cX3_init 64 = .ok (.iconst 0, 1) := by decide +kernel
theorem dX3_init_65 : decode cX3_init 65 = .ok (.istore_n 1, 1) := by decide +kernel
theorem dX3_init_66 : decode cX3_init 66 = .ok (.iload_n 1, 1) := by decide +kernel
theorem dX3_init_67 : decode cX3_init 67 = .ok (.iconst 5, 1) := by decide +kernel
theorem dX3_init_68 : decode cX3_init 68 = .ok (.if_icmp .ge 23, 3) := by decide +kernel
theorem dX3_init_71 : decode cX3_init 71 = .ok (.aload_n 0, 1) := by decide +kernel
theorem dX3_init_72 : decode cX3_init 72 = .ok (.getfield 11, 3) := by decide +kernel
theorem dX3_init_75 : decode cX3_init 75 = .ok (.iload_n 1, 1) := by decide +kernel
theorem dX3_init_76 : decode cX3_init 76 = .ok (.new 9, 3) := by decide +kernel
theorem dX3_init_79 : decode cX3_init 79 = .ok (.dup, 1) := by decide +kernel
theorem dX3_init_80 : decode cX3_init 80 = .ok (.iload_n 1, 1) := by decide +kernel
theorem dX3_init_81 : decode cX3_init 81 = .ok (.invokespecial 35, 3) := by decide +kernel
theorem dX3_init_84 : decode cX3_init 84 = .ok (.aastore, 1) := by decide +kernel
theorem dX3_init_85 : decode cX3_init 85 = .ok (.iinc 1 1, 3) := by decide +kernel
theorem dX3_init_88 : decode cX3_init 88 = .ok (.goto (-22), 3) := by decide +kernel
theorem dX3_init_91 : decode cX3_init 91 = .ok (.iconst 0, 1) := by decide +kernel
theorem dX3_init_92 : decode cX3_init 92 = .ok (.istore_n 1, 1) := by decide +kernel
theorem dX3_init_93 : decode cX3_init 93 = .ok (.iload_n 1, 1) := by decide +kernel
theorem dX3_init_94 : decode cX3_init 94 = .ok (.bipush 20, 2) := by decide +kernel
theorem dX3_init_96 : decode cX3_init 96 = .ok (.if_icmp .ge 22, 3) := by decide +kernel
theorem dX3_init_99 : decode cX3_init 99 = .ok (.aload_n 0, 1) := by decide +kernel
theorem dX3_init_100 : decode cX3_init 100 = .ok (.getfield 17, 3) := by decide +kernel
theorem dX3_init_103 : decode cX3_init 103 = .ok (.iload_n 1, 1) := by decide +kernel
theorem dX3_init_104 : decode cX3_init 104 = .ok (.new 15, 3) := by decide +kernel
theorem dX3_init_107 : decode cX3_init 107 = .ok (.dup, 1) := by decide +kernel
theorem dX3_init_108 : decode cX3_init 108 = .ok (.invokespecial 42, 3) := by decide +kernel
theorem dX3_init_111 : decode cX3_init 111 = .ok (.aastore, 1) := by decide +kernel
theorem dX3_init_112 : decode cX3_init 112 = .ok (.iinc 1 1, 3) := by decide +kernel
theorem dX3_init_115 : decode cX3_init 115 = .ok (.goto (-22), 3) := by decide +kernel
theorem dX3_init_118 : decode cX3_init 118 = .ok (.return_, 1) := by decide +kernel
theorem dX3_make_0 : decode cX3_make 0 = .ok (.iload_n 1, 1) := by decide +kernel
theorem dX3_make_1 : decode cX3_make 1 = .ok (.invokestatic 47, 3) := by decide +kernel
theorem dX3_make_4 : decode cX3_make 4 = .ok (.aload_n 0, 1) := by decide +kernel
theorem dX3_make_5 : decode cX3_make 5 = .ok (.iload_n 3, 1) := by decide +kernel
theorem dX3_make_6 : decode cX3_make 6 = .ok (.invokevirtual 50, 3) := by decide +kernel
theorem dX3_make_9 : decode cX3_make 9 = .ok (.astore 4, 2) := by decide +kernel
theorem dX3_make_11 : decode cX3_make 11 = .ok (.iload_n 2, 1) := by decide +kernel
theorem dX3_make_12 : decode cX3_make 12 = .ok (.iconst 1, 1) := by decide +kernel
theorem dX3_make_13 : decode cX3_make 13 = .ok (.if_icmp .lt 9, 3) := by decide +kernel
theorem dX3_make_16 : decode cX3_make 16 = .ok (.iload_n 2, 1) := by decide +kernel
theorem dX3_make_17 : decode cX3_make 17 = .ok (.bipush 100, 2) := by decide +kernel
theorem dX3_make_19 : decode cX3_make 19 = .ok (.if_icmp .le 13, 3) := by decide +kernel
theorem dX3_make_22 : decode cX3_make 22 = .ok (.new 54, 3) := by decide +kernel
theorem dX3_make_25 : decode cX3_make 25 = .ok (.dup, 1) := by decide +kernel
theorem dX3_make_26 : decode cX3_make 26 = .ok (.ldc 56, 2) := by decide +kernel
theorem dX3_make_28 : decode cX3_make 28 = .ok (.invokespecial 58, 3) := by decide +kernel
theorem dX3_make_31 : decode cX3_make 31 = .ok (.athrow, 1) := by decide +kernel
theorem dX3_make_32 : decode cX3_make 32 = .ok (.aload_n 0, 1) := by decide +kernel
theorem dX3_make_33 : decode cX3_make 33 = .ok (.getfield 21, 3) := by decide +kernel
theorem dX3_make_36 : decode cX3_make 36 = .ok (.bipush 20, 2) := by decide +kernel
theorem dX3_make_38 : decode cX3_make 38 = .ok (.if_icmp .lt 13, 3) := by decide +kernel
theorem dX3_make_41 : decode cX3_make 41 = .ok (.new 61, 3) := by decide +kernel
theorem dX3_make_44 : decode cX3_make 44 = .ok (.dup, 1) := by decide +kernel
theorem dX3_make_45 : decode cX3_make 45 = .ok (.ldc 63, 2) := by decide +kernel
theorem dX3_make_47 : decode cX3_make 47 = .ok (.invokespecial 65, 3) := by decide +kernel
theorem dX3_make_50 : decode cX3_make 50 = .ok (.athrow, 1) := by decide +kernel
theorem dX3_make_51 : decode cX3_make 51 = .ok (.aload_n 0, 1) := by decide +kernel
theorem dX3_make_52 : decode cX3_make 52 = .ok (.getfield 21, 3) := by decide +kernel
theorem dX3_make_55 : decode cX3_make 55 = .ok (.istore 5, 2) := by decide +kernel
theorem dX3_make_57 : decode cX3_make 57 = .ok (.aload_n 0, 1) := by decide +kernel
theorem dX3_make_58 : decode cX3_make 58 = .ok (.getfield 17, 3) := by decide +kernel
theorem dX3_make_61 : decode cX3_make 61 = .ok (.iload 5, 2) := by decide +kernel
theorem dX3_make_63 : decode cX3_make 63 = .ok (.aaload, 1) := by decide +kernel
theorem dX3_make_64 : decode cX3_make 64 = .ok (.iload_n 1, 1) := by decide +kernel
theorem dX3_make_65 : decode cX3_make 65 = .ok (.iload_n 2, 1) := by decide +kernel
theorem dX3_make_66 : decode cX3_make 66 = .ok (.aload 4, 2) := by decide +kernel
theorem dX3_make_68 : decode cX3_make 68 = .ok (.invokevirtual 66, 3) := by decide +kernel
theorem dX3_make_71 : decode cX3_make 71 = .ok (.aload 4, 2) := by decide +kernel
theorem dX3_make_73 : decode cX3_make 73 = .ok (.invokevirtual 70, 3) := by decide +kernel
theorem dX3_make_76 : decode cX3_make 76 = .ok (.aload_n 0, 1) := by decide +kernel
theorem dX3_make_77 : decode cX3_make 77 = .ok (.dup, 1) := by decide +kernel
theorem dX3_make_78 : decode cX3_make 78 = .ok (.getfield 21, 3) := by decide +kernel
theorem dX3_make_81 : decode cX3_make 81 = .ok (.iconst 1, 1) := by decide +kernel
theorem dX3_make_82 : decode cX3_make 82 = .ok (.iadd, 1) := by decide +kernel
theorem dX3_make_83 : decode cX3_make 83 = .ok (.putfield 21, 3) := by decide +kernel
theorem dX3_make_86 : decode cX3_make 86 = .ok (.iload 5, 2) := by decide +kernel
theorem dX3_make_88 : decode cX3_make 88 = .ok (.ireturn, 1) := by decide +kernel
theorem dX3_move_0 : decode cX3_move 0 = .ok (.aload_n 0, 1) := by decide +kernel
theorem dX3_move_1 : decode cX3_move 1 = .ok (.iload_n 1, 1) := by decide +kernel
theorem dX3_move_2 : decode cX3_move 2 = .ok (.invokevirtual 73, 3) := by decide +kernel
theorem dX3_move_5 : decode cX3_move 5 = .ok (.astore_n 3, 1) := by decide +kernel
theorem dX3_move_6 : decode cX3_move 6 = .ok (.aload_n 0, 1) := by decide +kernel
theorem dX3_move_7 : decode cX3_move 7 = .ok (.iload_n 2, 1) := by decide +kernel
theorem dX3_move_8 : decode cX3_move 8 = .ok (.invokevirtual 50, 3) := by decide +kernel
theorem dX3_move_11 : decode cX3_move 11 = .ok (.astore 4, 2) := by decide +kernel
theorem dX3_move_13 : decode cX3_move 13 = .ok (.aload_n 3, 1) := by decide +kernel
theorem dX3_move_14 : decode cX3_move 14 = .ok (.getfield 77, 3) := by decide +kernel
theorem dX3_move_17 : decode cX3_move 17 = .ok (.astore 5, 2) := by decide +kernel
theorem dX3_move_19 : decode cX3_move 19 = .ok (.aload 5, 2) := by decide +kernel
theorem dX3_move_21 : decode cX3_move 21 = .ok (.ifnonnull 13, 3) := by decide +kernel
theorem dX3_move_24 : decode cX3_move 24 = .ok (.new 61, 3) := by decide +kernel
theorem dX3_move_27 : decode cX3_move 27 = .ok (.dup, 1) := by decide +kernel
theorem dX3_move_28 : decode cX3_move 28 = .ok (.ldc 80, 2) := by decide +kernel
theorem dX3_move_30 : decode cX3_move 30 = .ok (.invokespecial 65, 3) := by decide +kernel
theorem dX3_move_33 : decode cX3_move 33 = .ok (.athrow, 1) := by decide +kernel
theorem dX3_move_34 : decode cX3_move 34 = .ok (.aload 5, 2) := by decide +kernel
theorem dX3_move_36 : decode cX3_move 36 = .ok (.aload 4, 2) := by decide +kernel
theorem dX3_move_38 : decode cX3_move 38 = .ok (.if_acmp .ne 13, 3) := by decide +kernel
theorem dX3_move_41 : decode cX3_move 41 = .ok (.new 61, 3) := by decide +kernel
theorem dX3_move_44 : decode cX3_move 44 = .ok (.dup, 1) := by decide +kernel
theorem dX3_move_45 : decode cX3_move 45 = .ok (.ldc 82, 2) := by decide +kernel
theorem dX3_move_47 : decode cX3_move 47 = .ok (.invokespecial 65, 3) := by decide +kernel
theorem dX3_move_50 : decode cX3_move 50 = .ok (.athrow, 1) := by decide +kernel
theorem dX3_move_51 : decode cX3_move 51 = .ok (.aload_n 3, 1) := by decide +kernel
theorem dX3_move_52 : decode cX3_move 52 = .ok (.getfield 84, 3) := by decide +kernel
theorem dX3_move_55 : decode cX3_move 55 = .ok (.getstatic 88, 3) := by decide +kernel
theorem dX3_move_58 : decode cX3_move 58 = .ok (.if_acmp .ne 13, 3) := by decide +kernel
theorem dX3_move_61 : decode cX3_move 61 = .ok (.new 61, 3) := by decide +kernel
theorem dX3_move_64 : decode cX3_move 64 = .ok (.dup, 1) := by decide +kernel
theorem dX3_move_65 : decode cX3_move 65 = .ok (.ldc 93, 2) := by decide +kernel
theorem dX3_move_67 : decode cX3_move 67 = .ok (.invokespecial 65, 3) := by decide +kernel
theorem dX3_move_70 : decode cX3_move 70 = .ok (.athrow, 1) := by decide +kernel
theorem dX3_move_71 : decode cX3_move 71 = .ok (.aload_n 3, 1) := by decide +kernel
theorem dX3_move_72 : decode cX3_move 72 = .ok (.aload 4, 2) := by decide +kernel
theorem dX3_move_74 : decode cX3_move 74 = .ok (.putfield 77, 3) := by decide +kernel
theorem dX3_move_77 : decode cX3_move 77 = .ok (.aload 5, 2) := by decide +kernel
theorem dX3_move_79 : decode cX3_move 79 = .ok (.invokevirtual 70, 3) := by decide +kernel
theorem dX3_move_82 : decode cX3_move 82 = .ok (.aload 4, 2) := by decide +kernel
theorem dX3_move_84 : decode cX3_move 84 = .ok (.invokevirtual 70, 3) := by decide +kernel
theorem dX3_move_87 : decode cX3_move 87 = .ok (.aload 5, 2) := by decide +kernel
theorem dX3_move_89 : decode cX3_move 89 = .ok (.getfield 95, 3) := by decide +kernel
theorem dX3_move_92 : decode cX3_move 92 = .ok (.ireturn, 1) := by decide +kernel
theorem dX3_keep_0 : decode cX3_keep 0 = .ok (.aload_n 0, 1) := by decide +kernel
theorem dX3_keep_1 : decode cX3_keep 1 = .ok (.iload_n 1, 1) := by decide +kernel
theorem dX3_keep_2 : decode cX3_keep 2 = .ok (.invokevirtual 73, 3) := by decide +kernel
theorem dX3_keep_5 : decode cX3_keep 5 = .ok (.astore_n 2, 1) := by decide +kernel
theorem dX3_keep_6 : decode cX3_keep 6 = .ok (.aload_n 2, 1) := by decide +kernel
theorem dX3_keep_7 : decode cX3_keep 7 = .ok (.getfield 77, 3) := by decide +kernel
theorem dX3_keep_10 : decode cX3_keep 10 = .ok (.astore_n 3, 1) := by decide +kernel
theorem dX3_keep_11 : decode cX3_keep 11 = .ok (.aload_n 3, 1) := by decide +kernel
theorem dX3_keep_12 : decode cX3_keep 12 = .ok (.ifnonnull 13, 3) := by decide +kernel
theorem dX3_keep_15 : decode cX3_keep 15 = .ok (.new 61, 3) := by decide +kernel
theorem dX3_keep_18 : decode cX3_keep 18 = .ok (.dup, 1) := by decide +kernel
theorem dX3_keep_19 : decode cX3_keep 19 = .ok (.ldc 80, 2) := by decide +kernel
theorem dX3_keep_21 : decode cX3_keep 21 = .ok (.invokespecial 65, 3) := by decide +kernel
theorem dX3_keep_24 : decode cX3_keep 24 = .ok (.athrow, 1) := by decide +kernel
theorem dX3_keep_25 : decode cX3_keep 25 = .ok (.aload_n 2, 1) := by decide +kernel
theorem dX3_keep_26 : decode cX3_keep 26 = .ok (.getstatic 98, 3) := by decide +kernel
theorem dX3_keep_29 : decode cX3_keep 29 = .ok (.invokevirtual 101, 3) := by decide +kernel
theorem dX3_keep_32 : decode cX3_keep 32 = .ok (.aload_n 3, 1) := by decide +kernel
theorem dX3_keep_33 : decode cX3_keep 33 = .ok (.invokevirtual 70, 3) := by decide +kernel
theorem dX3_keep_36 : decode cX3_keep 36 = .ok (.aload_n 2, 1) := by decide +kernel
theorem dX3_keep_37 : decode cX3_keep 37 = .ok (.getfield 105, 3) := by decide +kernel
theorem dX3_keep_40 : decode cX3_keep 40 = .ok (.aload_n 2, 1) := by decide +kernel
theorem dX3_keep_41 : decode cX3_keep 41 = .ok (.getfield 108, 3) := by decide +kernel
theorem dX3_keep_44 : decode cX3_keep 44 = .ok (.isub, 1) := by decide +kernel
theorem dX3_keep_45 : decode cX3_keep 45 = .ok (.ireturn, 1) := by decide +kernel
theorem dX3_set_0 : decode cX3_set 0 = .ok (.aload_n 0, 1) := by decide +kernel
theorem dX3_set_1 : decode cX3_set 1 = .ok (.iload_n 1, 1) := by decide +kernel
theorem dX3_set_2 : decode cX3_set 2 = .ok (.invokevirtual 50, 3) := by decide +kernel
theorem dX3_set_5 : decode cX3_set 5 = .ok (.astore_n 3, 1) := by decide +kernel
theorem dX3_set_6 : decode cX3_set 6 = .ok (.iload_n 2, 1) := by decide +kernel
theorem dX3_set_7 : decode cX3_set 7 = .ok (.bipush (-30), 2) := by decide +kernel
theorem dX3_set_9 : decode cX3_set 9 = .ok (.if_icmp .lt 9, 3) := by decide +kernel
theorem dX3_set_12 : decode cX3_set 12 = .ok (.iload_n 2, 1) := by decide +kernel
theorem dX3_set_13 : decode cX3_set 13 = .ok (.bipush (-5), 2) := by decide +kernel
theorem dX3_set_15 : decode cX3_set 15 = .ok (.if_icmp .le 13, 3) := by decide +kernel
theorem dX3_set_18 : decode cX3_set 18 = .ok (.new 54, 3) := by decide +kernel
theorem dX3_set_21 : decode cX3_set 21 = .ok (.dup, 1) := by decide +kernel
theorem dX3_set_22 : decode cX3_set 22 = .ok (.ldc 111, 2) := by decide +kernel
theorem dX3_set_24 : decode cX3_set 24 = .ok (.invokespecial 58, 3) := by decide +kernel
theorem dX3_set_27 : decode cX3_set 27 = .ok (.athrow, 1) := by decide +kernel
theorem dX3_set_28 : decode cX3_set 28 = .ok (.aload_n 3, 1) := by decide +kernel
theorem dX3_set_29 : decode cX3_set 29 = .ok (.getfield 113, 3) := by decide +kernel
theorem dX3_set_32 : decode cX3_set 32 = .ok (.istore 4, 2) := by decide +kernel
theorem dX3_set_34 : decode cX3_set 34 = .ok (.aload_n 3, 1) := by decide +kernel
theorem dX3_set_35 : decode cX3_set 35 = .ok (.iload_n 2, 1) := by decide +kernel
theorem dX3_set_36 : decode cX3_set 36 = .ok (.putfield 113, 3) := by decide +kernel
theorem dX3_set_39 : decode cX3_set 39 = .ok (.iload 4, 2) := by decide +kernel
theorem dX3_set_41 : decode cX3_set 41 = .ok (.ireturn, 1) := by decide +kernel
theorem dX3_switchPower_0 : decode cX3_switchPower 0 = .ok (.aload_n 0, 1) := by decide +kernel
theorem dX3_switchPower_1 : decode cX3_switchPower 1 = .ok (.aload_n 0, 1) := by decide +kernel
theorem dX3_switchPower_2 : decode cX3_switchPower 2 = .ok (.getfield 31, 3) := by decide +kernel
theorem dX3_switchPower_5 : decode cX3_switchPower 5 = .ok (.ifCond .ne 7, 3) := by decide +kernel
theorem dX3_switchPower_8 : decode cX3_switchPower 8 = .ok (.iconst 1, 1) := by decide +kernel
theorem dX3_switchPower_9 : decode cX3_switchPower 9 = .ok (.goto 4, 3) := by decide +kernel
theorem dX3_switchPower_12 : decode cX3_switchPower 12 = .ok (.iconst 0, 1) := by decide +kernel
theorem dX3_switchPower_13 : decode cX3_switchPower 13 = .ok (.putfield 31, 3) := by decide +kernel
theorem dX3_switchPower_16 : decode cX3_switchPower 16 = .ok (.aload_n 0, 1) := by decide +kernel
theorem dX3_switchPower_17 : decode cX3_switchPower 17 = .ok (.getfield 31, 3) := by decide +kernel
theorem dX3_switchPower_20 : decode cX3_switchPower 20 = .ok (.ireturn, 1) := by decide +kernel
theorem dX3_pass_0 : decode cX3_pass 0 = .ok (.iload_n 1, 1) := by decide +kernel
theorem dX3_pass_1 : decode cX3_pass 1 = .ok (.invokestatic 116, 3) := by decide +kernel
theorem dX3_pass_4 : decode cX3_pass 4 = .ok (.aload_n 0, 1) := by decide +kernel
theorem dX3_pass_5 : decode cX3_pass 5 = .ok (.getfield 25, 3) := by decide +kernel
theorem dX3_pass_8 : decode cX3_pass 8 = .ok (.istore_n 2, 1) := by decide +kernel
theorem dX3_pass_9 : decode cX3_pass 9 = .ok (.iconst 0, 1) := by decide +kernel
theorem dX3_pass_10 : decode cX3_pass 10 = .ok (.istore_n 3, 1) := by decide +kernel
theorem dX3_pass_11 : decode cX3_pass 11 = .ok (.iload_n 3, 1) := by decide +kernel
theorem dX3_pass_12 : decode cX3_pass 12 = .ok (.iload_n 1, 1) := by decide +kernel
theorem dX3_pass_13 : decode cX3_pass 13 = .ok (.if_icmp .ge 13, 3) := by decide +kernel
theorem dX3_pass_16 : decode cX3_pass 16 = .ok (.aload_n 0, 1) := by decide +kernel
theorem dX3_pass_17 : decode cX3_pass 17 = .ok (.invokevirtual 119, 3) := by decide +kernel
theorem dX3_pass_20 : decode cX3_pass 20 = .ok (.iinc 3 1, 3) := by decide +kernel
theorem dX3_pass_23 : decode cX3_pass 23 = .ok (.goto (-12), 3) := by decide +kernel
theorem dX3_pass_26 : decode cX3_pass 26 = .ok (.aload_n 0, 1) := by decide +kernel
theorem dX3_pass_27 : decode cX3_pass 27 = .ok (.getfield 25, 3) := by decide +kernel
theorem dX3_pass_30 : decode cX3_pass 30 = .ok (.iload_n 2, 1) := by decide +kernel
theorem dX3_pass_31 : decode cX3_pass 31 = .ok (.isub, 1) := by decide +kernel
theorem dX3_pass_32 : decode cX3_pass 32 = .ok (.ireturn, 1) := by decide +kernel
theorem dX3_hour_0 : decode cX3_hour 0 = .ok (.aload_n 0, 1) := by decide +kernel
theorem dX3_hour_1 : decode cX3_hour 1 = .ok (.getfield 28, 3) := by decide +kernel
theorem dX3_hour_4 : decode cX3_hour 4 = .ok (.ireturn, 1) := by decide +kernel
theorem dX3_hasPower_0 : decode cX3_hasPower 0 = .ok (.aload_n 0, 1) := by decide +kernel
theorem dX3_hasPower_1 : decode cX3_hasPower 1 = .ok (.getfield 31, 3) := by decide +kernel
theorem dX3_hasPower_4 : decode cX3_hasPower 4 = .ok (.ireturn, 1) := by decide +kernel
theorem dX3_settingOf_0 : decode cX3_settingOf 0 = .ok (.aload_n 0, 1) := by decide +kernel
theorem dX3_settingOf_1 : decode cX3_settingOf 1 = .ok (.iload_n 1, 1) := by decide +kernel
theorem dX3_settingOf_2 : decode cX3_settingOf 2 = .ok (.invokevirtual 50, 3) := by decide +kernel
theorem dX3_settingOf_5 : decode cX3_settingOf 5 = .ok (.getfield 113, 3) := by decide +kernel
theorem dX3_settingOf_8 : decode cX3_settingOf 8 = .ok (.ireturn, 1) := by decide +kernel
theorem dX3_heatOn_0 : decode cX3_heatOn 0 = .ok (.aload_n 0, 1) := by decide +kernel
theorem dX3_heatOn_1 : decode cX3_heatOn 1 = .ok (.iload_n 1, 1) := by decide +kernel
theorem dX3_heatOn_2 : decode cX3_heatOn 2 = .ok (.invokevirtual 50, 3) := by decide +kernel
theorem dX3_heatOn_5 : decode cX3_heatOn 5 = .ok (.getfield 122, 3) := by decide +kernel
theorem dX3_heatOn_8 : decode cX3_heatOn 8 = .ok (.ireturn, 1) := by decide +kernel
theorem dX3_promisesOn_0 : decode cX3_promisesOn 0 = .ok (.aload_n 0, 1) := by decide +kernel
theorem dX3_promisesOn_1 : decode cX3_promisesOn 1 = .ok (.iload_n 1, 1) := by decide +kernel
theorem dX3_promisesOn_2 : decode cX3_promisesOn 2 = .ok (.invokevirtual 50, 3) := by decide +kernel
theorem dX3_promisesOn_5 : decode cX3_promisesOn 5 = .ok (.astore_n 2, 1) := by decide +kernel
theorem dX3_promisesOn_6 : decode cX3_promisesOn 6 = .ok (.iconst 0, 1) := by decide +kernel
theorem dX3_promisesOn_7 : decode cX3_promisesOn 7 = .ok (.istore_n 3, 1) := by decide +kernel
theorem dX3_promisesOn_8 : decode cX3_promisesOn 8 = .ok (.aload_n 0, 1) := by decide +kernel
theorem dX3_promisesOn_9 : decode cX3_promisesOn 9 = .ok (.getfield 17, 3) := by decide +kernel
theorem dX3_promisesOn_12 : decode cX3_promisesOn 12 = .ok (.astore 4, 2) := by decide +kernel
theorem dX3_promisesOn_14 : decode cX3_promisesOn 14 = .ok (.aload 4, 2) := by decide +kernel
theorem dX3_promisesOn_16 : decode cX3_promisesOn 16 = .ok (.arraylength, 1) := by decide +kernel
theorem dX3_promisesOn_17 : decode cX3_promisesOn 17 = .ok (.istore 5, 2) := by decide +kernel
theorem dX3_promisesOn_19 : decode cX3_promisesOn 19 = .ok (.iconst 0, 1) := by decide +kernel
theorem dX3_promisesOn_20 : decode cX3_promisesOn 20 = .ok (.istore 6, 2) := by decide +kernel
theorem dX3_promisesOn_22 : decode cX3_promisesOn 22 = .ok (.iload 6, 2) := by decide +kernel
theorem dX3_promisesOn_24 : decode cX3_promisesOn 24 = .ok (.iload 5, 2) := by decide +kernel
theorem dX3_promisesOn_26 : decode cX3_promisesOn 26 = .ok (.if_icmp .ge 28, 3) := by decide +kernel
theorem dX3_promisesOn_29 : decode cX3_promisesOn 29 = .ok (.aload 4, 2) := by decide +kernel
theorem dX3_promisesOn_31 : decode cX3_promisesOn 31 = .ok (.iload 6, 2) := by decide +kernel
theorem dX3_promisesOn_33 : decode cX3_promisesOn 33 = .ok (.aaload, 1) := by decide +kernel
theorem dX3_promisesOn_34 : decode cX3_promisesOn 34 = .ok (.astore 7, 2) := by decide +kernel
theorem dX3_promisesOn_36 : decode cX3_promisesOn 36 = .ok (.aload 7, 2) := by decide +kernel
theorem dX3_promisesOn_38 : decode cX3_promisesOn 38 = .ok (.getfield 77, 3) := by decide +kernel
theorem dX3_promisesOn_41 : decode cX3_promisesOn 41 = .ok (.aload_n 2, 1) := by decide +kernel
theorem dX3_promisesOn_42 : decode cX3_promisesOn 42 = .ok (.if_acmp .ne 6, 3) := by decide +kernel
theorem dX3_promisesOn_45 : decode cX3_promisesOn 45 = .ok (.iinc 3 1, 3) := by decide +kernel
theorem dX3_promisesOn_48 : decode cX3_promisesOn 48 = .ok (.iinc 6 1, 3) := by decide +kernel
theorem dX3_promisesOn_51 : decode cX3_promisesOn 51 = .ok (.goto (-29), 3) := by decide +kernel
theorem dX3_promisesOn_54 : decode cX3_promisesOn 54 = .ok (.iload_n 3, 1) := by decide +kernel
theorem dX3_promisesOn_55 : decode cX3_promisesOn 55 = .ok (.ireturn, 1) := by decide +kernel
theorem dX3_coldest_0 : decode cX3_coldest 0 = .ok (.iconst 0, 1) := by decide +kernel
theorem dX3_coldest_1 : decode cX3_coldest 1 = .ok (.istore_n 1, 1) := by decide +kernel
theorem dX3_coldest_2 : decode cX3_coldest 2 = .ok (.iconst 1, 1) := by decide +kernel
theorem dX3_coldest_3 : decode cX3_coldest 3 = .ok (.istore_n 2, 1) := by decide +kernel
theorem dX3_coldest_4 : decode cX3_coldest 4 = .ok (.iload_n 2, 1) := by decide +kernel
theorem dX3_coldest_5 : decode cX3_coldest 5 = .ok (.iconst 5, 1) := by decide +kernel
theorem dX3_coldest_6 : decode cX3_coldest 6 = .ok (.if_icmp .ge 32, 3) := by decide +kernel
theorem dX3_coldest_9 : decode cX3_coldest 9 = .ok (.aload_n 0, 1) := by decide +kernel
theorem dX3_coldest_10 : decode cX3_coldest 10 = .ok (.getfield 11, 3) := by decide +kernel
theorem dX3_coldest_13 : decode cX3_coldest 13 = .ok (.iload_n 2, 1) := by decide +kernel
theorem dX3_coldest_14 : decode cX3_coldest 14 = .ok (.aaload, 1) := by decide +kernel
theorem dX3_coldest_15 : decode cX3_coldest 15 = .ok (.getfield 122, 3) := by decide +kernel
theorem dX3_coldest_18 : decode cX3_coldest 18 = .ok (.aload_n 0, 1) := by decide +kernel
theorem dX3_coldest_19 : decode cX3_coldest 19 = .ok (.getfield 11, 3) := by decide +kernel
theorem dX3_coldest_22 : decode cX3_coldest 22 = .ok (.iload_n 1, 1) := by decide +kernel
theorem dX3_coldest_23 : decode cX3_coldest 23 = .ok (.aaload, 1) := by decide +kernel
theorem dX3_coldest_24 : decode cX3_coldest 24 = .ok (.getfield 122, 3) := by decide +kernel
theorem dX3_coldest_27 : decode cX3_coldest 27 = .ok (.if_icmp .ge 5, 3) := by decide +kernel
theorem dX3_coldest_30 : decode cX3_coldest 30 = .ok (.iload_n 2, 1) := by decide +kernel
theorem dX3_coldest_31 : decode cX3_coldest 31 = .ok (.istore_n 1, 1) := by decide +kernel
theorem dX3_coldest_32 : decode cX3_coldest 32 = .ok (.iinc 2 1, 3) := by decide +kernel
theorem dX3_coldest_35 : decode cX3_coldest 35 = .ok (.goto (-31), 3) := by decide +kernel
theorem dX3_coldest_38 : decode cX3_coldest 38 = .ok (.iload_n 1, 1) := by decide +kernel
theorem dX3_coldest_39 : decode cX3_coldest 39 = .ok (.ireturn, 1) := by decide +kernel
theorem dX3_alarms_0 : decode cX3_alarms 0 = .ok (.aload_n 0, 1) := by decide +kernel
theorem dX3_alarms_1 : decode cX3_alarms 1 = .ok (.getfield 25, 3) := by decide +kernel
theorem dX3_alarms_4 : decode cX3_alarms 4 = .ok (.ireturn, 1) := by decide +kernel
theorem dX3_promises_0 : decode cX3_promises 0 = .ok (.aload_n 0, 1) := by decide +kernel
theorem dX3_promises_1 : decode cX3_promises 1 = .ok (.getfield 21, 3) := by decide +kernel
theorem dX3_promises_4 : decode cX3_promises 4 = .ok (.ireturn, 1) := by decide +kernel
theorem dX3_makerOf_0 : decode cX3_makerOf 0 = .ok (.aload_n 0, 1) := by decide +kernel
theorem dX3_makerOf_1 : decode cX3_makerOf 1 = .ok (.iload_n 1, 1) := by decide +kernel
theorem dX3_makerOf_2 : decode cX3_makerOf 2 = .ok (.invokevirtual 73, 3) := by decide +kernel
theorem dX3_makerOf_5 : decode cX3_makerOf 5 = .ok (.getfield 125, 3) := by decide +kernel
theorem dX3_makerOf_8 : decode cX3_makerOf 8 = .ok (.ireturn, 1) := by decide +kernel
theorem dX3_shelfOf_0 : decode cX3_shelfOf 0 = .ok (.aload_n 0, 1) := by decide +kernel
theorem dX3_shelfOf_1 : decode cX3_shelfOf 1 = .ok (.iload_n 1, 1) := by decide +kernel
theorem dX3_shelfOf_2 : decode cX3_shelfOf 2 = .ok (.invokevirtual 73, 3) := by decide +kernel
theorem dX3_shelfOf_5 : decode cX3_shelfOf 5 = .ok (.getfield 77, 3) := by decide +kernel
theorem dX3_shelfOf_8 : decode cX3_shelfOf 8 = .ok (.astore_n 2, 1) := by decide +kernel
theorem dX3_shelfOf_9 : decode cX3_shelfOf 9 = .ok (.aload_n 2, 1) := by decide +kernel
theorem dX3_shelfOf_10 : decode cX3_shelfOf 10 = .ok (.ifnonnull 7, 3) := by decide +kernel
theorem dX3_shelfOf_13 : decode cX3_shelfOf 13 = .ok (.iconst (-1), 1) := by decide +kernel
theorem dX3_shelfOf_14 : decode cX3_shelfOf 14 = .ok (.goto 7, 3) := by decide +kernel
theorem dX3_shelfOf_17 : decode cX3_shelfOf 17 = .ok (.aload_n 2, 1) := by decide +kernel
theorem dX3_shelfOf_18 : decode cX3_shelfOf 18 = .ok (.getfield 95, 3) := by decide +kernel
theorem dX3_shelfOf_21 : decode cX3_shelfOf 21 = .ok (.ireturn, 1) := by decide +kernel
theorem dX3_heatOf_0 : decode cX3_heatOf 0 = .ok (.aload_n 0, 1) := by decide +kernel
theorem dX3_heatOf_1 : decode cX3_heatOf 1 = .ok (.iload_n 1, 1) := by decide +kernel
theorem dX3_heatOf_2 : decode cX3_heatOf 2 = .ok (.invokevirtual 73, 3) := by decide +kernel
theorem dX3_heatOf_5 : decode cX3_heatOf 5 = .ok (.getfield 128, 3) := by decide +kernel
theorem dX3_heatOf_8 : decode cX3_heatOf 8 = .ok (.ireturn, 1) := by decide +kernel
theorem dX3_ageOf_0 : decode cX3_ageOf 0 = .ok (.aload_n 0, 1) := by decide +kernel
theorem dX3_ageOf_1 : decode cX3_ageOf 1 = .ok (.iload_n 1, 1) := by decide +kernel
theorem dX3_ageOf_2 : decode cX3_ageOf 2 = .ok (.invokevirtual 73, 3) := by decide +kernel
theorem dX3_ageOf_5 : decode cX3_ageOf 5 = .ok (.getfield 108, 3) := by decide +kernel
theorem dX3_ageOf_8 : decode cX3_ageOf 8 = .ok (.ireturn, 1) := by decide +kernel
theorem dX3_hoursLeft_0 : decode cX3_hoursLeft 0 = .ok (.aload_n 0, 1) := by decide +kernel
theorem dX3_hoursLeft_1 : decode cX3_hoursLeft 1 = .ok (.iload_n 1, 1) := by decide +kernel
theorem dX3_hoursLeft_2 : decode cX3_hoursLeft 2 = .ok (.invokevirtual 73, 3) := by decide +kernel
theorem dX3_hoursLeft_5 : decode cX3_hoursLeft 5 = .ok (.astore_n 2, 1) := by decide +kernel
theorem dX3_hoursLeft_6 : decode cX3_hoursLeft 6 = .ok (.aload_n 2, 1) := by decide +kernel
theorem dX3_hoursLeft_7 : decode cX3_hoursLeft 7 = .ok (.getfield 105, 3) := by decide +kernel
theorem dX3_hoursLeft_10 : decode cX3_hoursLeft 10 = .ok (.aload_n 2, 1) := by decide +kernel
theorem dX3_hoursLeft_11 : decode cX3_hoursLeft 11 = .ok (.getfield 108, 3) := by decide +kernel
theorem dX3_hoursLeft_14 : decode cX3_hoursLeft 14 = .ok (.isub, 1) := by decide +kernel
theorem dX3_hoursLeft_15 : decode cX3_hoursLeft 15 = .ok (.ireturn, 1) := by decide +kernel
theorem dX3_isFrozen_0 : decode cX3_isFrozen 0 = .ok (.aload_n 0, 1) := by decide +kernel
theorem dX3_isFrozen_1 : decode cX3_isFrozen 1 = .ok (.iload_n 1, 1) := by decide +kernel
theorem dX3_isFrozen_2 : decode cX3_isFrozen 2 = .ok (.invokevirtual 73, 3) := by decide +kernel
theorem dX3_isFrozen_5 : decode cX3_isFrozen 5 = .ok (.getfield 84, 3) := by decide +kernel
theorem dX3_isFrozen_8 : decode cX3_isFrozen 8 = .ok (.getstatic 129, 3) := by decide +kernel
theorem dX3_isFrozen_11 : decode cX3_isFrozen 11 = .ok (.if_acmp .ne 7, 3) := by decide +kernel
theorem dX3_isFrozen_14 : decode cX3_isFrozen 14 = .ok (.iconst 1, 1) := by decide +kernel
theorem dX3_isFrozen_15 : decode cX3_isFrozen 15 = .ok (.goto 4, 3) := by decide +kernel
theorem dX3_isFrozen_18 : decode cX3_isFrozen 18 = .ok (.iconst 0, 1) := by decide +kernel
theorem dX3_isFrozen_19 : decode cX3_isFrozen 19 = .ok (.ireturn, 1) := by decide +kernel
theorem dX3_isThawed_0 : decode cX3_isThawed 0 = .ok (.aload_n 0, 1) := by decide +kernel
theorem dX3_isThawed_1 : decode cX3_isThawed 1 = .ok (.iload_n 1, 1) := by decide +kernel
theorem dX3_isThawed_2 : decode cX3_isThawed 2 = .ok (.invokevirtual 73, 3) := by decide +kernel
theorem dX3_isThawed_5 : decode cX3_isThawed 5 = .ok (.getfield 84, 3) := by decide +kernel
theorem dX3_isThawed_8 : decode cX3_isThawed 8 = .ok (.getstatic 88, 3) := by decide +kernel
theorem dX3_isThawed_11 : decode cX3_isThawed 11 = .ok (.if_acmp .ne 7, 3) := by decide +kernel
theorem dX3_isThawed_14 : decode cX3_isThawed 14 = .ok (.iconst 1, 1) := by decide +kernel
theorem dX3_isThawed_15 : decode cX3_isThawed 15 = .ok (.goto 4, 3) := by decide +kernel
theorem dX3_isThawed_18 : decode cX3_isThawed 18 = .ok (.iconst 0, 1) := by decide +kernel
theorem dX3_isThawed_19 : decode cX3_isThawed 19 = .ok (.ireturn, 1) := by decide +kernel
theorem dX3_isKept_0 : decode cX3_isKept 0 = .ok (.aload_n 0, 1) := by decide +kernel
theorem dX3_isKept_1 : decode cX3_isKept 1 = .ok (.iload_n 1, 1) := by decide +kernel
theorem dX3_isKept_2 : decode cX3_isKept 2 = .ok (.invokevirtual 73, 3) := by decide +kernel
theorem dX3_isKept_5 : decode cX3_isKept 5 = .ok (.getfield 84, 3) := by decide +kernel
theorem dX3_isKept_8 : decode cX3_isKept 8 = .ok (.getstatic 98, 3) := by decide +kernel
theorem dX3_isKept_11 : decode cX3_isKept 11 = .ok (.if_acmp .ne 7, 3) := by decide +kernel
theorem dX3_isKept_14 : decode cX3_isKept 14 = .ok (.iconst 1, 1) := by decide +kernel
theorem dX3_isKept_15 : decode cX3_isKept 15 = .ok (.goto 4, 3) := by decide +kernel
theorem dX3_isKept_18 : decode cX3_isKept 18 = .ok (.iconst 0, 1) := by decide +kernel
theorem dX3_isKept_19 : decode cX3_isKept 19 = .ok (.ireturn, 1) := by decide +kernel
theorem dX3_isExpired_0 : decode cX3_isExpired 0 = .ok (.aload_n 0, 1) := by decide +kernel
theorem dX3_isExpired_1 : decode cX3_isExpired 1 = .ok (.iload_n 1, 1) := by decide +kernel
theorem dX3_isExpired_2 : decode cX3_isExpired 2 = .ok (.invokevirtual 73, 3) := by decide +kernel
theorem dX3_isExpired_5 : decode cX3_isExpired 5 = .ok (.getfield 84, 3) := by decide +kernel
theorem dX3_isExpired_8 : decode cX3_isExpired 8 = .ok (.getstatic 132, 3) := by decide +kernel
theorem dX3_isExpired_11 : decode cX3_isExpired 11 = .ok (.if_acmp .ne 7, 3) := by decide +kernel
theorem dX3_isExpired_14 : decode cX3_isExpired 14 = .ok (.iconst 1, 1) := by decide +kernel
theorem dX3_isExpired_15 : decode cX3_isExpired 15 = .ok (.goto 4, 3) := by decide +kernel
theorem dX3_isExpired_18 : decode cX3_isExpired 18 = .ok (.iconst 0, 1) := by decide +kernel
theorem dX3_isExpired_19 : decode cX3_isExpired 19 = .ok (.ireturn, 1) := by decide +kernel
theorem dX3_owedBy_0 : decode cX3_owedBy 0 = .ok (.iload_n 1, 1) := by decide +kernel
theorem dX3_owedBy_1 : decode cX3_owedBy 1 = .ok (.invokestatic 47, 3) := by decide +kernel
theorem dX3_owedBy_4 : decode cX3_owedBy 4 = .ok (.iconst 0, 1) := by decide +kernel
theorem dX3_owedBy_5 : decode cX3_owedBy 5 = .ok (.istore_n 2, 1) := by decide +kernel
theorem dX3_owedBy_6 : decode cX3_owedBy 6 = .ok (.aload_n 0, 1) := by decide +kernel
theorem dX3_owedBy_7 : decode cX3_owedBy 7 = .ok (.getfield 17, 3) := by decide +kernel
theorem dX3_owedBy_10 : decode cX3_owedBy 10 = .ok (.astore_n 3, 1) := by decide +kernel
theorem dX3_owedBy_11 : decode cX3_owedBy 11 = .ok (.aload_n 3, 1) := by decide +kernel
theorem dX3_owedBy_12 : decode cX3_owedBy 12 = .ok (.arraylength, 1) := by decide +kernel
theorem dX3_owedBy_13 : decode cX3_owedBy 13 = .ok (.istore 4, 2) := by decide +kernel
theorem dX3_owedBy_15 : decode cX3_owedBy 15 = .ok (.iconst 0, 1) := by decide +kernel
theorem dX3_owedBy_16 : decode cX3_owedBy 16 = .ok (.istore 5, 2) := by decide +kernel
theorem dX3_owedBy_18 : decode cX3_owedBy 18 = .ok (.iload 5, 2) := by decide +kernel
theorem dX3_owedBy_20 : decode cX3_owedBy 20 = .ok (.iload 4, 2) := by decide +kernel
theorem dX3_owedBy_22 : decode cX3_owedBy 22 = .ok (.if_icmp .ge 35, 3) := by decide +kernel
theorem dX3_owedBy_25 : decode cX3_owedBy 25 = .ok (.aload_n 3, 1) := by decide +kernel
theorem dX3_owedBy_26 : decode cX3_owedBy 26 = .ok (.iload 5, 2) := by decide +kernel
theorem dX3_owedBy_28 : decode cX3_owedBy 28 = .ok (.aaload, 1) := by decide +kernel
theorem dX3_owedBy_29 : decode cX3_owedBy 29 = .ok (.astore 6, 2) := by decide +kernel
theorem dX3_owedBy_31 : decode cX3_owedBy 31 = .ok (.aload 6, 2) := by decide +kernel
theorem dX3_owedBy_33 : decode cX3_owedBy 33 = .ok (.getfield 77, 3) := by decide +kernel
theorem dX3_owedBy_36 : decode cX3_owedBy 36 = .ok (.ifnull 15, 3) := by decide +kernel
theorem dX3_owedBy_39 : decode cX3_owedBy 39 = .ok (.aload 6, 2) := by decide +kernel
theorem dX3_owedBy_41 : decode cX3_owedBy 41 = .ok (.getfield 125, 3) := by decide +kernel
theorem dX3_owedBy_44 : decode cX3_owedBy 44 = .ok (.iload_n 1, 1) := by decide +kernel
theorem dX3_owedBy_45 : decode cX3_owedBy 45 = .ok (.if_icmp .ne 6, 3) := by decide +kernel
theorem dX3_owedBy_48 : decode cX3_owedBy 48 = .ok (.iinc 2 1, 3) := by decide +kernel
theorem dX3_owedBy_51 : decode cX3_owedBy 51 = .ok (.iinc 5 1, 3) := by decide +kernel
theorem dX3_owedBy_54 : decode cX3_owedBy 54 = .ok (.goto (-36), 3) := by decide +kernel
theorem dX3_owedBy_57 : decode cX3_owedBy 57 = .ok (.iload_n 2, 1) := by decide +kernel
theorem dX3_owedBy_58 : decode cX3_owedBy 58 = .ok (.ireturn, 1) := by decide +kernel
theorem dX3_honourOf_0 : decode cX3_honourOf 0 = .ok (.iload_n 1, 1) := by decide +kernel
theorem dX3_honourOf_1 : decode cX3_honourOf 1 = .ok (.invokestatic 47, 3) := by decide +kernel
theorem dX3_honourOf_4 : decode cX3_honourOf 4 = .ok (.aload_n 0, 1) := by decide +kernel
theorem dX3_honourOf_5 : decode cX3_honourOf 5 = .ok (.iload_n 1, 1) := by decide +kernel
theorem dX3_honourOf_6 : decode cX3_honourOf 6 = .ok (.getstatic 98, 3) := by decide +kernel
theorem dX3_honourOf_9 : decode cX3_honourOf 9 = .ok (.invokevirtual 135, 3) := by decide +kernel
theorem dX3_honourOf_12 : decode cX3_honourOf 12 = .ok (.aload_n 0, 1) := by decide +kernel
theorem dX3_honourOf_13 : decode cX3_honourOf 13 = .ok (.iload_n 1, 1) := by decide +kernel
theorem dX3_honourOf_14 : decode cX3_honourOf 14 = .ok (.getstatic 132, 3) := by decide +kernel
theorem dX3_honourOf_17 : decode cX3_honourOf 17 = .ok (.invokevirtual 135, 3) := by decide +kernel
theorem dX3_honourOf_20 : decode cX3_honourOf 20 = .ok (.isub, 1) := by decide +kernel
theorem dX3_honourOf_21 : decode cX3_honourOf 21 = .ok (.ireturn, 1) := by decide +kernel
theorem dX3_mostHonourable_0 : decode cX3_mostHonourable 0 = .ok (.iconst 0, 1) := by decide +kernel
theorem dX3_mostHonourable_1 : decode cX3_mostHonourable 1 = .ok (.istore_n 1, 1) := by decide +kernel
theorem dX3_mostHonourable_2 : decode cX3_mostHonourable 2 = .ok (.iconst 1, 1) := by decide +kernel
theorem dX3_mostHonourable_3 : decode cX3_mostHonourable 3 = .ok (.istore_n 2, 1) := by decide +kernel
theorem dX3_mostHonourable_4 : decode cX3_mostHonourable 4 = .ok (.iload_n 2, 1) := by decide +kernel
theorem dX3_mostHonourable_5 : decode cX3_mostHonourable 5 = .ok (.bipush 6, 2) := by decide +kernel
theorem dX3_mostHonourable_7 : decode cX3_mostHonourable 7 = .ok (.if_icmp .ge 24, 3) := by decide +kernel
theorem dX3_mostHonourable_10 : decode cX3_mostHonourable 10 = .ok (.aload_n 0, 1) := by decide +kernel
theorem dX3_mostHonourable_11 : decode cX3_mostHonourable 11 = .ok (.iload_n 2, 1) := by decide +kernel
theorem dX3_mostHonourable_12 : decode cX3_mostHonourable 12 = .ok (.invokevirtual 139, 3) := by decide +kernel
theorem dX3_mostHonourable_15 : decode cX3_mostHonourable 15 = .ok (.aload_n 0, 1) := by decide +kernel
theorem dX3_mostHonourable_16 : decode cX3_mostHonourable 16 = .ok (.iload_n 1, 1) := by decide +kernel
theorem dX3_mostHonourable_17 : decode cX3_mostHonourable 17 = .ok (.invokevirtual 139, 3) := by decide +kernel
theorem dX3_mostHonourable_20 : decode cX3_mostHonourable 20 = .ok (.if_icmp .le 5, 3) := by decide +kernel
theorem dX3_mostHonourable_23 : decode cX3_mostHonourable 23 = .ok (.iload_n 2, 1) := by decide +kernel
theorem dX3_mostHonourable_24 : decode cX3_mostHonourable 24 = .ok (.istore_n 1, 1) := by decide +kernel
theorem dX3_mostHonourable_25 : decode cX3_mostHonourable 25 = .ok (.iinc 2 1, 3) := by decide +kernel
theorem dX3_mostHonourable_28 : decode cX3_mostHonourable 28 = .ok (.goto (-24), 3) := by decide +kernel
theorem dX3_mostHonourable_31 : decode cX3_mostHonourable 31 = .ok (.iload_n 1, 1) := by decide +kernel
theorem dX3_mostHonourable_32 : decode cX3_mostHonourable 32 = .ok (.ireturn, 1) := by decide +kernel
theorem dX3_hoursUntilFrozen_0 : decode cX3_hoursUntilFrozen 0 = .ok (.aload_n 0, 1) := by decide +kernel
theorem dX3_hoursUntilFrozen_1 : decode cX3_hoursUntilFrozen 1 = .ok (.aload_n 0, 1) := by decide +kernel
theorem dX3_hoursUntilFrozen_2 : decode cX3_hoursUntilFrozen 2 = .ok (.iload_n 1, 1) := by decide +kernel
theorem dX3_hoursUntilFrozen_3 : decode cX3_hoursUntilFrozen 3 = .ok (.invokevirtual 73, 3) := by decide +kernel
theorem dX3_hoursUntilFrozen_6 : decode cX3_hoursUntilFrozen 6 = .ok (.getstatic 129, 3) := by decide +kernel
theorem dX3_hoursUntilFrozen_9 : decode cX3_hoursUntilFrozen 9 = .ok (.invokevirtual 143, 3) := by decide +kernel
theorem dX3_hoursUntilFrozen_12 : decode cX3_hoursUntilFrozen 12 = .ok (.ireturn, 1) := by decide +kernel
theorem dX3_hoursUntilThawed_0 : decode cX3_hoursUntilThawed 0 = .ok (.aload_n 0, 1) := by decide +kernel
theorem dX3_hoursUntilThawed_1 : decode cX3_hoursUntilThawed 1 = .ok (.aload_n 0, 1) := by decide +kernel
theorem dX3_hoursUntilThawed_2 : decode cX3_hoursUntilThawed 2 = .ok (.iload_n 1, 1) := by decide +kernel
theorem dX3_hoursUntilThawed_3 : decode cX3_hoursUntilThawed 3 = .ok (.invokevirtual 73, 3) := by decide +kernel
theorem dX3_hoursUntilThawed_6 : decode cX3_hoursUntilThawed 6 = .ok (.getstatic 88, 3) := by decide +kernel
theorem dX3_hoursUntilThawed_9 : decode cX3_hoursUntilThawed 9 = .ok (.invokevirtual 143, 3) := by decide +kernel
theorem dX3_hoursUntilThawed_12 : decode cX3_hoursUntilThawed 12 = .ok (.ireturn, 1) := by decide +kernel
theorem dX3_hoursUntilExpired_0 : decode cX3_hoursUntilExpired 0 = .ok (.aload_n 0, 1) := by decide +kernel
theorem dX3_hoursUntilExpired_1 : decode cX3_hoursUntilExpired 1 = .ok (.aload_n 0, 1) := by decide +kernel
theorem dX3_hoursUntilExpired_2 : decode cX3_hoursUntilExpired 2 = .ok (.iload_n 1, 1) := by decide +kernel
theorem dX3_hoursUntilExpired_3 : decode cX3_hoursUntilExpired 3 = .ok (.invokevirtual 73, 3) := by decide +kernel
theorem dX3_hoursUntilExpired_6 : decode cX3_hoursUntilExpired 6 = .ok (.getstatic 132, 3) := by decide +kernel
theorem dX3_hoursUntilExpired_9 : decode cX3_hoursUntilExpired 9 = .ok (.invokevirtual 143, 3) := by decide +kernel
theorem dX3_hoursUntilExpired_12 : decode cX3_hoursUntilExpired 12 = .ok (.ireturn, 1) := by decide +kernel
theorem dX3_leftIn_0 : decode cX3_leftIn 0 = .ok (.iload_n 1, 1) := by decide +kernel
theorem dX3_leftIn_1 : decode cX3_leftIn 1 = .ok (.invokestatic 116, 3) := by decide +kernel
theorem dX3_leftIn_4 : decode cX3_leftIn 4 = .ok (.iconst 0, 1) := by decide +kernel
theorem dX3_leftIn_5 : decode cX3_leftIn 5 = .ok (.istore_n 2, 1) := by decide +kernel
theorem dX3_leftIn_6 : decode cX3_leftIn 6 = .ok (.aload_n 0, 1) := by decide +kernel
theorem dX3_leftIn_7 : decode cX3_leftIn 7 = .ok (.getfield 17, 3) := by decide +kernel
theorem dX3_leftIn_10 : decode cX3_leftIn 10 = .ok (.astore_n 3, 1) := by decide +kernel
theorem dX3_leftIn_11 : decode cX3_leftIn 11 = .ok (.aload_n 3, 1) := by decide +kernel
theorem dX3_leftIn_12 : decode cX3_leftIn 12 = .ok (.arraylength, 1) := by decide +kernel
theorem dX3_leftIn_13 : decode cX3_leftIn 13 = .ok (.istore 4, 2) := by decide +kernel
theorem dX3_leftIn_15 : decode cX3_leftIn 15 = .ok (.iconst 0, 1) := by decide +kernel
theorem dX3_leftIn_16 : decode cX3_leftIn 16 = .ok (.istore 5, 2) := by decide +kernel
theorem dX3_leftIn_18 : decode cX3_leftIn 18 = .ok (.iload 5, 2) := by decide +kernel
theorem dX3_leftIn_20 : decode cX3_leftIn 20 = .ok (.iload 4, 2) := by decide +kernel
theorem dX3_leftIn_22 : decode cX3_leftIn 22 = .ok (.if_icmp .ge 28, 3) := by decide +kernel
theorem dX3_leftIn_25 : decode cX3_leftIn 25 = .ok (.aload_n 3, 1) := by decide +kernel
theorem dX3_leftIn_26 : decode cX3_leftIn 26 = .ok (.iload 5, 2) := by decide +kernel
theorem dX3_leftIn_28 : decode cX3_leftIn 28 = .ok (.aaload, 1) := by decide +kernel
theorem dX3_leftIn_29 : decode cX3_leftIn 29 = .ok (.astore 6, 2) := by decide +kernel
theorem dX3_leftIn_31 : decode cX3_leftIn 31 = .ok (.aload_n 0, 1) := by decide +kernel
theorem dX3_leftIn_32 : decode cX3_leftIn 32 = .ok (.aload 6, 2) := by decide +kernel
theorem dX3_leftIn_34 : decode cX3_leftIn 34 = .ok (.iload_n 1, 1) := by decide +kernel
theorem dX3_leftIn_35 : decode cX3_leftIn 35 = .ok (.invokevirtual 147, 3) := by decide +kernel
theorem dX3_leftIn_38 : decode cX3_leftIn 38 = .ok (.ifCond .eq 6, 3) := by decide +kernel
theorem dX3_leftIn_41 : decode cX3_leftIn 41 = .ok (.iinc 2 1, 3) := by decide +kernel
theorem dX3_leftIn_44 : decode cX3_leftIn 44 = .ok (.iinc 5 1, 3) := by decide +kernel
theorem dX3_leftIn_47 : decode cX3_leftIn 47 = .ok (.goto (-29), 3) := by decide +kernel
theorem dX3_leftIn_50 : decode cX3_leftIn 50 = .ok (.iload_n 2, 1) := by decide +kernel
theorem dX3_leftIn_51 : decode cX3_leftIn 51 = .ok (.ireturn, 1) := by decide +kernel
theorem dX3_bestShelf_0 : decode cX3_bestShelf 0 = .ok (.aload_n 0, 1) := by decide +kernel
theorem dX3_bestShelf_1 : decode cX3_bestShelf 1 = .ok (.getfield 21, 3) := by decide +kernel
theorem dX3_bestShelf_4 : decode cX3_bestShelf 4 = .ok (.bipush 20, 2) := by decide +kernel
theorem dX3_bestShelf_6 : decode cX3_bestShelf 6 = .ok (.if_icmp .lt 5, 3) := by decide +kernel
theorem dX3_bestShelf_9 : decode cX3_bestShelf 9 = .ok (.iconst (-1), 1) := by decide +kernel
theorem dX3_bestShelf_10 : decode cX3_bestShelf 10 = .ok (.ireturn, 1) := by decide +kernel
theorem dX3_bestShelf_11 : decode cX3_bestShelf 11 = .ok (.iconst (-1), 1) := by decide +kernel
theorem dX3_bestShelf_12 : decode cX3_bestShelf 12 = .ok (.istore_n 1, 1) := by decide +kernel
theorem dX3_bestShelf_13 : decode cX3_bestShelf 13 = .ok (.iconst (-1), 1) := by decide +kernel
theorem dX3_bestShelf_14 : decode cX3_bestShelf 14 = .ok (.istore_n 2, 1) := by decide +kernel
theorem dX3_bestShelf_15 : decode cX3_bestShelf 15 = .ok (.aload_n 0, 1) := by decide +kernel
theorem dX3_bestShelf_16 : decode cX3_bestShelf 16 = .ok (.getfield 11, 3) := by decide +kernel
theorem dX3_bestShelf_19 : decode cX3_bestShelf 19 = .ok (.astore_n 3, 1) := by decide +kernel
theorem dX3_bestShelf_20 : decode cX3_bestShelf 20 = .ok (.aload_n 3, 1) := by decide +kernel
theorem dX3_bestShelf_21 : decode cX3_bestShelf 21 = .ok (.arraylength, 1) := by decide +kernel
theorem dX3_bestShelf_22 : decode cX3_bestShelf 22 = .ok (.istore 4, 2) := by decide +kernel
theorem dX3_bestShelf_24 : decode cX3_bestShelf 24 = .ok (.iconst 0, 1) := by decide +kernel
theorem dX3_bestShelf_25 : decode cX3_bestShelf 25 = .ok (.istore 5, 2) := by decide +kernel
theorem dX3_bestShelf_27 : decode cX3_bestShelf 27 = .ok (.iload 5, 2) := by decide +kernel
theorem dX3_bestShelf_29 : decode cX3_bestShelf 29 = .ok (.iload 4, 2) := by decide +kernel
theorem dX3_bestShelf_31 : decode cX3_bestShelf 31 = .ok (.if_icmp .ge 41, 3) := by decide +kernel
theorem dX3_bestShelf_34 : decode cX3_bestShelf 34 = .ok (.aload_n 3, 1) := by decide +kernel
theorem dX3_bestShelf_35 : decode cX3_bestShelf 35 = .ok (.iload 5, 2) := by decide +kernel
theorem dX3_bestShelf_37 : decode cX3_bestShelf 37 = .ok (.aaload, 1) := by decide +kernel
theorem dX3_bestShelf_38 : decode cX3_bestShelf 38 = .ok (.astore 6, 2) := by decide +kernel
theorem dX3_bestShelf_40 : decode cX3_bestShelf 40 = .ok (.aload_n 0, 1) := by decide +kernel
theorem dX3_bestShelf_41 : decode cX3_bestShelf 41 = .ok (.aload 6, 2) := by decide +kernel
theorem dX3_bestShelf_43 : decode cX3_bestShelf 43 = .ok (.invokevirtual 151, 3) := by decide +kernel
theorem dX3_bestShelf_46 : decode cX3_bestShelf 46 = .ok (.istore 7, 2) := by decide +kernel
theorem dX3_bestShelf_48 : decode cX3_bestShelf 48 = .ok (.iload 7, 2) := by decide +kernel
theorem dX3_bestShelf_50 : decode cX3_bestShelf 50 = .ok (.iload_n 2, 1) := by decide +kernel
theorem dX3_bestShelf_51 : decode cX3_bestShelf 51 = .ok (.invokestatic 155, 3) := by decide +kernel
theorem dX3_bestShelf_54 : decode cX3_bestShelf 54 = .ok (.ifCond .eq 12, 3) := by decide +kernel
theorem dX3_bestShelf_57 : decode cX3_bestShelf 57 = .ok (.aload 6, 2) := by decide +kernel
theorem dX3_bestShelf_59 : decode cX3_bestShelf 59 = .ok (.getfield 95, 3) := by decide +kernel
theorem dX3_bestShelf_62 : decode cX3_bestShelf 62 = .ok (.istore_n 1, 1) := by decide +kernel
theorem dX3_bestShelf_63 : decode cX3_bestShelf 63 = .ok (.iload 7, 2) := by decide +kernel
theorem dX3_bestShelf_65 : decode cX3_bestShelf 65 = .ok (.istore_n 2, 1) := by decide +kernel
theorem dX3_bestShelf_66 : decode cX3_bestShelf 66 = .ok (.iinc 5 1, 3) := by decide +kernel
theorem dX3_bestShelf_69 : decode cX3_bestShelf 69 = .ok (.goto (-42), 3) := by decide +kernel
theorem dX3_bestShelf_72 : decode cX3_bestShelf 72 = .ok (.iload_n 1, 1) := by decide +kernel
theorem dX3_bestShelf_73 : decode cX3_bestShelf 73 = .ok (.ireturn, 1) := by decide +kernel
theorem dX3_hoursOfCold_0 : decode cX3_hoursOfCold 0 = .ok (.iconst (-1), 1) := by decide +kernel
theorem dX3_hoursOfCold_1 : decode cX3_hoursOfCold 1 = .ok (.istore_n 1, 1) := by decide +kernel
theorem dX3_hoursOfCold_2 : decode cX3_hoursOfCold 2 = .ok (.aload_n 0, 1) := by decide +kernel
theorem dX3_hoursOfCold_3 : decode cX3_hoursOfCold 3 = .ok (.getfield 17, 3) := by decide +kernel
theorem dX3_hoursOfCold_6 : decode cX3_hoursOfCold 6 = .ok (.astore_n 2, 1) := by decide +kernel
theorem dX3_hoursOfCold_7 : decode cX3_hoursOfCold 7 = .ok (.aload_n 2, 1) := by decide +kernel
theorem dX3_hoursOfCold_8 : decode cX3_hoursOfCold 8 = .ok (.arraylength, 1) := by decide +kernel
theorem dX3_hoursOfCold_9 : decode cX3_hoursOfCold 9 = .ok (.istore_n 3, 1) := by decide +kernel
theorem dX3_hoursOfCold_10 : decode cX3_hoursOfCold 10 = .ok (.iconst 0, 1) := by decide +kernel
theorem dX3_hoursOfCold_11 : decode cX3_hoursOfCold 11 = .ok (.istore 4, 2) := by decide +kernel
theorem dX3_hoursOfCold_13 : decode cX3_hoursOfCold 13 = .ok (.iload 4, 2) := by decide +kernel
theorem dX3_hoursOfCold_15 : decode cX3_hoursOfCold 15 = .ok (.iload_n 3, 1) := by decide +kernel
theorem dX3_hoursOfCold_16 : decode cX3_hoursOfCold 16 = .ok (.if_icmp .ge 35, 3) := by decide +kernel
theorem dX3_hoursOfCold_19 : decode cX3_hoursOfCold 19 = .ok (.aload_n 2, 1) := by decide +kernel
theorem dX3_hoursOfCold_20 : decode cX3_hoursOfCold 20 = .ok (.iload 4, 2) := by decide +kernel
theorem dX3_hoursOfCold_22 : decode cX3_hoursOfCold 22 = .ok (.aaload, 1) := by decide +kernel
theorem dX3_hoursOfCold_23 : decode cX3_hoursOfCold 23 = .ok (.astore 5, 2) := by decide +kernel
theorem dX3_hoursOfCold_25 : decode cX3_hoursOfCold 25 = .ok (.aload_n 0, 1) := by decide +kernel
theorem dX3_hoursOfCold_26 : decode cX3_hoursOfCold 26 = .ok (.aload 5, 2) := by decide +kernel
theorem dX3_hoursOfCold_28 : decode cX3_hoursOfCold 28 = .ok (.invokevirtual 159, 3) := by decide +kernel
theorem dX3_hoursOfCold_31 : decode cX3_hoursOfCold 31 = .ok (.istore 6, 2) := by decide +kernel
theorem dX3_hoursOfCold_33 : decode cX3_hoursOfCold 33 = .ok (.iload 6, 2) := by decide +kernel
theorem dX3_hoursOfCold_35 : decode cX3_hoursOfCold 35 = .ok (.iload_n 1, 1) := by decide +kernel
theorem dX3_hoursOfCold_36 : decode cX3_hoursOfCold 36 = .ok (.invokestatic 155, 3) := by decide +kernel
theorem dX3_hoursOfCold_39 : decode cX3_hoursOfCold 39 = .ok (.ifCond .eq 6, 3) := by decide +kernel
theorem dX3_hoursOfCold_42 : decode cX3_hoursOfCold 42 = .ok (.iload 6, 2) := by decide +kernel
theorem dX3_hoursOfCold_44 : decode cX3_hoursOfCold 44 = .ok (.istore_n 1, 1) := by decide +kernel
theorem dX3_hoursOfCold_45 : decode cX3_hoursOfCold 45 = .ok (.iinc 4 1, 3) := by decide +kernel
theorem dX3_hoursOfCold_48 : decode cX3_hoursOfCold 48 = .ok (.goto (-35), 3) := by decide +kernel
theorem dX3_hoursOfCold_51 : decode cX3_hoursOfCold 51 = .ok (.iload_n 1, 1) := by decide +kernel
theorem dX3_hoursOfCold_52 : decode cX3_hoursOfCold 52 = .ok (.ireturn, 1) := by decide +kernel
theorem dX3_meanHeat_0 : decode cX3_meanHeat 0 = .ok (.iconst 0, 1) := by decide +kernel
theorem dX3_meanHeat_1 : decode cX3_meanHeat 1 = .ok (.istore_n 1, 1) := by decide +kernel
theorem dX3_meanHeat_2 : decode cX3_meanHeat 2 = .ok (.iconst 0, 1) := by decide +kernel
theorem dX3_meanHeat_3 : decode cX3_meanHeat 3 = .ok (.istore_n 2, 1) := by decide +kernel
theorem dX3_meanHeat_4 : decode cX3_meanHeat 4 = .ok (.aload_n 0, 1) := by decide +kernel
theorem dX3_meanHeat_5 : decode cX3_meanHeat 5 = .ok (.getfield 17, 3) := by decide +kernel
theorem dX3_meanHeat_8 : decode cX3_meanHeat 8 = .ok (.astore_n 3, 1) := by decide +kernel
theorem dX3_meanHeat_9 : decode cX3_meanHeat 9 = .ok (.aload_n 3, 1) := by decide +kernel
theorem dX3_meanHeat_10 : decode cX3_meanHeat 10 = .ok (.arraylength, 1) := by decide +kernel
theorem dX3_meanHeat_11 : decode cX3_meanHeat 11 = .ok (.istore 4, 2) := by decide +kernel
theorem dX3_meanHeat_13 : decode cX3_meanHeat 13 = .ok (.iconst 0, 1) := by decide +kernel
theorem dX3_meanHeat_14 : decode cX3_meanHeat 14 = .ok (.istore 5, 2) := by decide +kernel
theorem dX3_meanHeat_16 : decode cX3_meanHeat 16 = .ok (.iload 5, 2) := by decide +kernel
theorem dX3_meanHeat_18 : decode cX3_meanHeat 18 = .ok (.iload 4, 2) := by decide +kernel
theorem dX3_meanHeat_20 : decode cX3_meanHeat 20 = .ok (.if_icmp .ge 34, 3) := by decide +kernel
theorem dX3_meanHeat_23 : decode cX3_meanHeat 23 = .ok (.aload_n 3, 1) := by decide +kernel
theorem dX3_meanHeat_24 : decode cX3_meanHeat 24 = .ok (.iload 5, 2) := by decide +kernel
theorem dX3_meanHeat_26 : decode cX3_meanHeat 26 = .ok (.aaload, 1) := by decide +kernel
theorem dX3_meanHeat_27 : decode cX3_meanHeat 27 = .ok (.astore 6, 2) := by decide +kernel
theorem dX3_meanHeat_29 : decode cX3_meanHeat 29 = .ok (.aload 6, 2) := by decide +kernel
theorem dX3_meanHeat_31 : decode cX3_meanHeat 31 = .ok (.getfield 77, 3) := by decide +kernel
theorem dX3_meanHeat_34 : decode cX3_meanHeat 34 = .ok (.ifnull 14, 3) := by decide +kernel
theorem dX3_meanHeat_37 : decode cX3_meanHeat 37 = .ok (.iload_n 1, 1) := by decide +kernel
theorem dX3_meanHeat_38 : decode cX3_meanHeat 38 = .ok (.aload 6, 2) := by decide +kernel
theorem dX3_meanHeat_40 : decode cX3_meanHeat 40 = .ok (.getfield 128, 3) := by decide +kernel
theorem dX3_meanHeat_43 : decode cX3_meanHeat 43 = .ok (.iadd, 1) := by decide +kernel
theorem dX3_meanHeat_44 : decode cX3_meanHeat 44 = .ok (.istore_n 1, 1) := by decide +kernel
theorem dX3_meanHeat_45 : decode cX3_meanHeat 45 = .ok (.iinc 2 1, 3) := by decide +kernel
theorem dX3_meanHeat_48 : decode cX3_meanHeat 48 = .ok (.iinc 5 1, 3) := by decide +kernel
theorem dX3_meanHeat_51 : decode cX3_meanHeat 51 = .ok (.goto (-35), 3) := by decide +kernel
theorem dX3_meanHeat_54 : decode cX3_meanHeat 54 = .ok (.iload_n 2, 1) := by decide +kernel
theorem dX3_meanHeat_55 : decode cX3_meanHeat 55 = .ok (.ifCond .ne 7, 3) := by decide +kernel
theorem dX3_meanHeat_58 : decode cX3_meanHeat 58 = .ok (.dconst 0, 1) := by decide +kernel
theorem dX3_meanHeat_59 : decode cX3_meanHeat 59 = .ok (.goto 8, 3) := by decide +kernel
theorem dX3_meanHeat_62 : decode cX3_meanHeat 62 = .ok (.iload_n 1, 1) := by decide +kernel
theorem dX3_meanHeat_63 : decode cX3_meanHeat 63 = .ok (.i2d, 1) := by decide +kernel
theorem dX3_meanHeat_64 : decode cX3_meanHeat 64 = .ok (.iload_n 2, 1) := by decide +kernel
theorem dX3_meanHeat_65 : decode cX3_meanHeat 65 = .ok (.i2d, 1) := by decide +kernel
theorem dX3_meanHeat_66 : decode cX3_meanHeat 66 = .ok (.ddiv, 1) := by decide +kernel
theorem dX3_meanHeat_67 : decode cX3_meanHeat 67 = .ok (.dreturn, 1) := by decide +kernel
theorem dX3_digest_0 : decode cX3_digest 0 = .ok (.ldc2_w 163, 3) := by decide +kernel
theorem dX3_digest_3 : decode cX3_digest 3 = .ok (.lstore_n 1, 1) := by decide +kernel
theorem dX3_digest_4 : decode cX3_digest 4 = .ok (.lload_n 1, 1) := by decide +kernel
theorem dX3_digest_5 : decode cX3_digest 5 = .ok (.ldc2_w 165, 3) := by decide +kernel
theorem dX3_digest_8 : decode cX3_digest 8 = .ok (.lmul, 1) := by decide +kernel
theorem dX3_digest_9 : decode cX3_digest 9 = .ok (.aload_n 0, 1) := by decide +kernel
theorem dX3_digest_10 : decode cX3_digest 10 = .ok (.invokevirtual 167, 3) := by decide +kernel
theorem dX3_digest_13 : decode cX3_digest 13 = .ok (.i2l, 1) := by decide +kernel
theorem dX3_digest_14 : decode cX3_digest 14 = .ok (.ladd, 1) := by decide +kernel
theorem dX3_digest_15 : decode cX3_digest 15 = .ok (.lstore_n 1, 1) := by decide +kernel
theorem dX3_digest_16 : decode cX3_digest 16 = .ok (.lload_n 1, 1) := by decide +kernel
theorem dX3_digest_17 : decode cX3_digest 17 = .ok (.ldc2_w 165, 3) := by decide +kernel
theorem dX3_digest_20 : decode cX3_digest 20 = .ok (.lmul, 1) := by decide +kernel
theorem dX3_digest_21 : decode cX3_digest 21 = .ok (.aload_n 0, 1) := by decide +kernel
theorem dX3_digest_22 : decode cX3_digest 22 = .ok (.invokevirtual 171, 3) := by decide +kernel
theorem dX3_digest_25 : decode cX3_digest 25 = .ok (.invokestatic 175, 3) := by decide +kernel
theorem dX3_digest_28 : decode cX3_digest 28 = .ok (.i2l, 1) := by decide +kernel
theorem dX3_digest_29 : decode cX3_digest 29 = .ok (.ladd, 1) := by decide +kernel
theorem dX3_digest_30 : decode cX3_digest 30 = .ok (.lstore_n 1, 1) := by decide +kernel
theorem dX3_digest_31 : decode cX3_digest 31 = .ok (.lload_n 1, 1) := by decide +kernel
theorem dX3_digest_32 : decode cX3_digest 32 = .ok (.ldc2_w 165, 3) := by decide +kernel
theorem dX3_digest_35 : decode cX3_digest 35 = .ok (.lmul, 1) := by decide +kernel
theorem dX3_digest_36 : decode cX3_digest 36 = .ok (.aload_n 0, 1) := by decide +kernel
theorem dX3_digest_37 : decode cX3_digest 37 = .ok (.invokevirtual 179, 3) := by decide +kernel
theorem dX3_digest_40 : decode cX3_digest 40 = .ok (.i2l, 1) := by decide +kernel
theorem dX3_digest_41 : decode cX3_digest 41 = .ok (.ladd, 1) := by decide +kernel
theorem dX3_digest_42 : decode cX3_digest 42 = .ok (.lstore_n 1, 1) := by decide +kernel
theorem dX3_digest_43 : decode cX3_digest 43 = .ok (.lload_n 1, 1) := by decide +kernel
theorem dX3_digest_44 : decode cX3_digest 44 = .ok (.ldc2_w 165, 3) := by decide +kernel
theorem dX3_digest_47 : decode cX3_digest 47 = .ok (.lmul, 1) := by decide +kernel
theorem dX3_digest_48 : decode cX3_digest 48 = .ok (.aload_n 0, 1) := by decide +kernel
theorem dX3_digest_49 : decode cX3_digest 49 = .ok (.invokevirtual 182, 3) := by decide +kernel
theorem dX3_digest_52 : decode cX3_digest 52 = .ok (.i2l, 1) := by decide +kernel
theorem dX3_digest_53 : decode cX3_digest 53 = .ok (.ladd, 1) := by decide +kernel
theorem dX3_digest_54 : decode cX3_digest 54 = .ok (.lstore_n 1, 1) := by decide +kernel
theorem dX3_digest_55 : decode cX3_digest 55 = .ok (.lload_n 1, 1) := by decide +kernel
theorem dX3_digest_56 : decode cX3_digest 56 = .ok (.ldc2_w 165, 3) := by decide +kernel
theorem dX3_digest_59 : decode cX3_digest 59 = .ok (.lmul, 1) := by decide +kernel
theorem dX3_digest_60 : decode cX3_digest 60 = .ok (.aload_n 0, 1) := by decide +kernel
theorem dX3_digest_61 : decode cX3_digest 61 = .ok (.invokevirtual 184, 3) := by decide +kernel
theorem dX3_digest_64 : decode cX3_digest 64 = .ok (.i2l, 1) := by decide +kernel
theorem dX3_digest_65 : decode cX3_digest 65 = .ok (.ladd, 1) := by decide +kernel
theorem dX3_digest_66 : decode cX3_digest 66 = .ok (.lstore_n 1, 1) := by decide +kernel
theorem dX3_digest_67 : decode cX3_digest 67 = .ok (.lload_n 1, 1) := by decide +kernel
theorem dX3_digest_68 : decode cX3_digest 68 = .ok (.ldc2_w 165, 3) := by decide +kernel
theorem dX3_digest_71 : decode cX3_digest 71 = .ok (.lmul, 1) := by decide +kernel
theorem dX3_digest_72 : decode cX3_digest 72 = .ok (.aload_n 0, 1) := by decide +kernel
theorem dX3_digest_73 : decode cX3_digest 73 = .ok (.invokevirtual 187, 3) := by decide +kernel
theorem dX3_digest_76 : decode cX3_digest 76 = .ok (.i2l, 1) := by decide +kernel
theorem dX3_digest_77 : decode cX3_digest 77 = .ok (.ladd, 1) := by decide +kernel
theorem dX3_digest_78 : decode cX3_digest 78 = .ok (.lstore_n 1, 1) := by decide +kernel
theorem dX3_digest_79 : decode cX3_digest 79 = .ok (.lload_n 1, 1) := by decide +kernel
theorem dX3_digest_80 : decode cX3_digest 80 = .ok (.ldc2_w 165, 3) := by decide +kernel
theorem dX3_digest_83 : decode cX3_digest 83 = .ok (.lmul, 1) := by decide +kernel
theorem dX3_digest_84 : decode cX3_digest 84 = .ok (.aload_n 0, 1) := by decide +kernel
theorem dX3_digest_85 : decode cX3_digest 85 = .ok (.invokevirtual 190, 3) := by decide +kernel
theorem dX3_digest_88 : decode cX3_digest 88 = .ok (.i2l, 1) := by decide +kernel
theorem dX3_digest_89 : decode cX3_digest 89 = .ok (.ladd, 1) := by decide +kernel
theorem dX3_digest_90 : decode cX3_digest 90 = .ok (.lstore_n 1, 1) := by decide +kernel
theorem dX3_digest_91 : decode cX3_digest 91 = .ok (.lload_n 1, 1) := by decide +kernel
theorem dX3_digest_92 : decode cX3_digest 92 = .ok (.ldc2_w 165, 3) := by decide +kernel
theorem dX3_digest_95 : decode cX3_digest 95 = .ok (.lmul, 1) := by decide +kernel
theorem dX3_digest_96 : decode cX3_digest 96 = .ok (.aload_n 0, 1) := by decide +kernel
theorem dX3_digest_97 : decode cX3_digest 97 = .ok (.invokevirtual 193, 3) := by decide +kernel
theorem dX3_digest_100 : decode cX3_digest 100 = .ok (.i2l, 1) := by decide +kernel
theorem dX3_digest_101 : decode cX3_digest 101 = .ok (.ladd, 1) := by decide +kernel
theorem dX3_digest_102 : decode cX3_digest 102 = .ok (.lstore_n 1, 1) := by decide +kernel
theorem dX3_digest_103 : decode cX3_digest 103 = .ok (.aload_n 0, 1) := by decide +kernel
theorem dX3_digest_104 : decode cX3_digest 104 = .ok (.lload_n 1, 1) := by decide +kernel
theorem dX3_digest_105 : decode cX3_digest 105 = .ok (.invokevirtual 196, 3) := by decide +kernel
theorem dX3_digest_108 : decode cX3_digest 108 = .ok (.lstore_n 1, 1) := by decide +kernel
theorem dX3_digest_109 : decode cX3_digest 109 = .ok (.aload_n 0, 1) := by decide +kernel
theorem dX3_digest_110 : decode cX3_digest 110 = .ok (.lload_n 1, 1) := by decide +kernel
theorem dX3_digest_111 : decode cX3_digest 111 = .ok (.invokevirtual 200, 3) := by decide +kernel
theorem dX3_digest_114 : decode cX3_digest 114 = .ok (.lstore_n 1, 1) := by decide +kernel
theorem dX3_digest_115 : decode cX3_digest 115 = .ok (.aload_n 0, 1) := by decide +kernel
theorem dX3_digest_116 : decode cX3_digest 116 = .ok (.lload_n 1, 1) := by decide +kernel
theorem dX3_digest_117 : decode cX3_digest 117 = .ok (.invokevirtual 203, 3) := by decide +kernel
theorem dX3_digest_120 : decode cX3_digest 120 = .ok (.lreturn, 1) := by decide +kernel
theorem dX3_checkMaker_0 : decode cX3_checkMaker 0 = .ok (.iload_n 0, 1) := by decide +kernel
theorem dX3_checkMaker_1 : decode cX3_checkMaker 1 = .ok (.ifCond .lt 9, 3) := by decide +kernel
theorem dX3_checkMaker_4 : decode cX3_checkMaker 4 = .ok (.iload_n 0, 1) := by decide +kernel
theorem dX3_checkMaker_5 : decode cX3_checkMaker 5 = .ok (.bipush 6, 2) := by decide +kernel
theorem dX3_checkMaker_7 : decode cX3_checkMaker 7 = .ok (.if_icmp .lt 13, 3) := by decide +kernel
theorem dX3_checkMaker_10 : decode cX3_checkMaker 10 = .ok (.new 206, 3) := by decide +kernel
theorem dX3_checkMaker_13 : decode cX3_checkMaker 13 = .ok (.dup, 1) := by decide +kernel
theorem dX3_checkMaker_14 : decode cX3_checkMaker 14 = .ok (.ldc 208, 2) := by decide +kernel
theorem dX3_checkMaker_16 : decode cX3_checkMaker 16 = .ok (.invokespecial 210, 3) := by decide +kernel
theorem dX3_checkMaker_19 : decode cX3_checkMaker 19 = .ok (.athrow, 1) := by decide +kernel
theorem dX3_checkMaker_20 : decode cX3_checkMaker 20 = .ok (.return_, 1) := by decide +kernel
theorem dX3_checkHours_0 : decode cX3_checkHours 0 = .ok (.iload_n 0, 1) := by decide +kernel
theorem dX3_checkHours_1 : decode cX3_checkHours 1 = .ok (.iconst 1, 1) := by decide +kernel
theorem dX3_checkHours_2 : decode cX3_checkHours 2 = .ok (.if_icmp .lt 9, 3) := by decide +kernel
theorem dX3_checkHours_5 : decode cX3_checkHours 5 = .ok (.iload_n 0, 1) := by decide +kernel
theorem dX3_checkHours_6 : decode cX3_checkHours 6 = .ok (.bipush 100, 2) := by decide +kernel
theorem dX3_checkHours_8 : decode cX3_checkHours 8 = .ok (.if_icmp .le 13, 3) := by decide +kernel
theorem dX3_checkHours_11 : decode cX3_checkHours 11 = .ok (.new 54, 3) := by decide +kernel
theorem dX3_checkHours_14 : decode cX3_checkHours 14 = .ok (.dup, 1) := by decide +kernel
theorem dX3_checkHours_15 : decode cX3_checkHours 15 = .ok (.ldc 211, 2) := by decide +kernel
theorem dX3_checkHours_17 : decode cX3_checkHours 17 = .ok (.invokespecial 58, 3) := by decide +kernel
theorem dX3_checkHours_20 : decode cX3_checkHours 20 = .ok (.athrow, 1) := by decide +kernel
theorem dX3_checkHours_21 : decode cX3_checkHours 21 = .ok (.return_, 1) := by decide +kernel
theorem dX3_findShelf_0 : decode cX3_findShelf 0 = .ok (.iload_n 1, 1) := by decide +kernel
theorem dX3_findShelf_1 : decode cX3_findShelf 1 = .ok (.ifCond .lt 8, 3) := by decide +kernel
theorem dX3_findShelf_4 : decode cX3_findShelf 4 = .ok (.iload_n 1, 1) := by decide +kernel
theorem dX3_findShelf_5 : decode cX3_findShelf 5 = .ok (.iconst 5, 1) := by decide +kernel
theorem dX3_findShelf_6 : decode cX3_findShelf 6 = .ok (.if_icmp .lt 13, 3) := by decide +kernel
theorem dX3_findShelf_9 : decode cX3_findShelf 9 = .ok (.new 206, 3) := by decide +kernel
theorem dX3_findShelf_12 : decode cX3_findShelf 12 = .ok (.dup, 1) := by decide +kernel
theorem dX3_findShelf_13 : decode cX3_findShelf 13 = .ok (.ldc 213, 2) := by decide +kernel
theorem dX3_findShelf_15 : decode cX3_findShelf 15 = .ok (.invokespecial 210, 3) := by decide +kernel
theorem dX3_findShelf_18 : decode cX3_findShelf 18 = .ok (.athrow, 1) := by decide +kernel
theorem dX3_findShelf_19 : decode cX3_findShelf 19 = .ok (.aload_n 0, 1) := by decide +kernel
theorem dX3_findShelf_20 : decode cX3_findShelf 20 = .ok (.getfield 11, 3) := by decide +kernel
theorem dX3_findShelf_23 : decode cX3_findShelf 23 = .ok (.iload_n 1, 1) := by decide +kernel
theorem dX3_findShelf_24 : decode cX3_findShelf 24 = .ok (.aaload, 1) := by decide +kernel
theorem dX3_findShelf_25 : decode cX3_findShelf 25 = .ok (.areturn, 1) := by decide +kernel
theorem dX3_findPromise_0 : decode cX3_findPromise 0 = .ok (.iload_n 1, 1) := by decide +kernel
theorem dX3_findPromise_1 : decode cX3_findPromise 1 = .ok (.ifCond .lt 11, 3) := by decide +kernel
theorem dX3_findPromise_4 : decode cX3_findPromise 4 = .ok (.iload_n 1, 1) := by decide +kernel
theorem dX3_findPromise_5 : decode cX3_findPromise 5 = .ok (.aload_n 0, 1) := by decide +kernel
theorem dX3_findPromise_6 : decode cX3_findPromise 6 = .ok (.getfield 21, 3) := by decide +kernel
theorem dX3_findPromise_9 : decode cX3_findPromise 9 = .ok (.if_icmp .lt 13, 3) := by decide +kernel
theorem dX3_findPromise_12 : decode cX3_findPromise 12 = .ok (.new 206, 3) := by decide +kernel
theorem dX3_findPromise_15 : decode cX3_findPromise 15 = .ok (.dup, 1) := by decide +kernel
theorem dX3_findPromise_16 : decode cX3_findPromise 16 = .ok (.ldc 215, 2) := by decide +kernel
theorem dX3_findPromise_18 : decode cX3_findPromise 18 = .ok (.invokespecial 210, 3) := by decide +kernel
theorem dX3_findPromise_21 : decode cX3_findPromise 21 = .ok (.athrow, 1) := by decide +kernel
theorem dX3_findPromise_22 : decode cX3_findPromise 22 = .ok (.aload_n 0, 1) := by decide +kernel
theorem dX3_findPromise_23 : decode cX3_findPromise 23 = .ok (.getfield 17, 3) := by decide +kernel
theorem dX3_findPromise_26 : decode cX3_findPromise 26 = .ok (.iload_n 1, 1) := by decide +kernel
theorem dX3_findPromise_27 : decode cX3_findPromise 27 = .ok (.aaload, 1) := by decide +kernel
theorem dX3_findPromise_28 : decode cX3_findPromise 28 = .ok (.areturn, 1) := by decide +kernel
theorem dX3_passAnHour_0 : decode cX3_passAnHour 0 = .ok (.aload_n 0, 1) := by decide +kernel
theorem dX3_passAnHour_1 : decode cX3_passAnHour 1 = .ok (.getfield 11, 3) := by decide +kernel
theorem dX3_passAnHour_4 : decode cX3_passAnHour 4 = .ok (.astore_n 1, 1) := by decide +kernel
theorem dX3_passAnHour_5 : decode cX3_passAnHour 5 = .ok (.aload_n 1, 1) := by decide +kernel
theorem dX3_passAnHour_6 : decode cX3_passAnHour 6 = .ok (.arraylength, 1) := by decide +kernel
theorem dX3_passAnHour_7 : decode cX3_passAnHour 7 = .ok (.istore_n 2, 1) := by decide +kernel
theorem dX3_passAnHour_8 : decode cX3_passAnHour 8 = .ok (.iconst 0, 1) := by decide +kernel
theorem dX3_passAnHour_9 : decode cX3_passAnHour 9 = .ok (.istore_n 3, 1) := by decide +kernel
theorem dX3_passAnHour_10 : decode cX3_passAnHour 10 = .ok (.iload_n 3, 1) := by decide +kernel
theorem dX3_passAnHour_11 : decode cX3_passAnHour 11 = .ok (.iload_n 2, 1) := by decide +kernel
theorem dX3_passAnHour_12 : decode cX3_passAnHour 12 = .ok (.if_icmp .ge 23, 3) := by decide +kernel
theorem dX3_passAnHour_15 : decode cX3_passAnHour 15 = .ok (.aload_n 1, 1) := by decide +kernel
theorem dX3_passAnHour_16 : decode cX3_passAnHour 16 = .ok (.iload_n 3, 1) := by decide +kernel
theorem dX3_passAnHour_17 : decode cX3_passAnHour 17 = .ok (.aaload, 1) := by decide +kernel
theorem dX3_passAnHour_18 : decode cX3_passAnHour 18 = .ok (.astore 4, 2) := by decide +kernel
theorem dX3_passAnHour_20 : decode cX3_passAnHour 20 = .ok (.aload 4, 2) := by decide +kernel
theorem dX3_passAnHour_22 : decode cX3_passAnHour 22 = .ok (.aload_n 0, 1) := by decide +kernel
theorem dX3_passAnHour_23 : decode cX3_passAnHour 23 = .ok (.getfield 31, 3) := by decide +kernel
theorem dX3_passAnHour_26 : decode cX3_passAnHour 26 = .ok (.invokevirtual 217, 3) := by decide +kernel
theorem dX3_passAnHour_29 : decode cX3_passAnHour 29 = .ok (.iinc 3 1, 3) := by decide +kernel
theorem dX3_passAnHour_32 : decode cX3_passAnHour 32 = .ok (.goto (-22), 3) := by decide +kernel
theorem dX3_passAnHour_35 : decode cX3_passAnHour 35 = .ok (.aload_n 0, 1) := by decide +kernel
theorem dX3_passAnHour_36 : decode cX3_passAnHour 36 = .ok (.getfield 17, 3) := by decide +kernel
theorem dX3_passAnHour_39 : decode cX3_passAnHour 39 = .ok (.astore_n 1, 1) := by decide +kernel
theorem dX3_passAnHour_40 : decode cX3_passAnHour 40 = .ok (.aload_n 1, 1) := by decide +kernel
theorem dX3_passAnHour_41 : decode cX3_passAnHour 41 = .ok (.arraylength, 1) := by decide +kernel
theorem dX3_passAnHour_42 : decode cX3_passAnHour 42 = .ok (.istore_n 2, 1) := by decide +kernel
theorem dX3_passAnHour_43 : decode cX3_passAnHour 43 = .ok (.iconst 0, 1) := by decide +kernel
theorem dX3_passAnHour_44 : decode cX3_passAnHour 44 = .ok (.istore_n 3, 1) := by decide +kernel
theorem dX3_passAnHour_45 : decode cX3_passAnHour 45 = .ok (.iload_n 3, 1) := by decide +kernel
theorem dX3_passAnHour_46 : decode cX3_passAnHour 46 = .ok (.iload_n 2, 1) := by decide +kernel
theorem dX3_passAnHour_47 : decode cX3_passAnHour 47 = .ok (.if_icmp .ge 32, 3) := by decide +kernel
theorem dX3_passAnHour_50 : decode cX3_passAnHour 50 = .ok (.aload_n 1, 1) := by decide +kernel
theorem dX3_passAnHour_51 : decode cX3_passAnHour 51 = .ok (.iload_n 3, 1) := by decide +kernel
theorem dX3_passAnHour_52 : decode cX3_passAnHour 52 = .ok (.aaload, 1) := by decide +kernel
theorem dX3_passAnHour_53 : decode cX3_passAnHour 53 = .ok (.astore 4, 2) := by decide +kernel
theorem dX3_passAnHour_55 : decode cX3_passAnHour 55 = .ok (.aload 4, 2) := by decide +kernel
theorem dX3_passAnHour_57 : decode cX3_passAnHour 57 = .ok (.invokevirtual 221, 3) := by decide +kernel
theorem dX3_passAnHour_60 : decode cX3_passAnHour 60 = .ok (.ifCond .eq 13, 3) := by decide +kernel
theorem dX3_passAnHour_63 : decode cX3_passAnHour 63 = .ok (.aload_n 0, 1) := by decide +kernel
theorem dX3_passAnHour_64 : decode cX3_passAnHour 64 = .ok (.dup, 1) := by decide +kernel
theorem dX3_passAnHour_65 : decode cX3_passAnHour 65 = .ok (.getfield 25, 3) := by decide +kernel
theorem dX3_passAnHour_68 : decode cX3_passAnHour 68 = .ok (.iconst 1, 1) := by decide +kernel
theorem dX3_passAnHour_69 : decode cX3_passAnHour 69 = .ok (.iadd, 1) := by decide +kernel
theorem dX3_passAnHour_70 : decode cX3_passAnHour 70 = .ok (.putfield 25, 3) := by decide +kernel
theorem dX3_passAnHour_73 : decode cX3_passAnHour 73 = .ok (.iinc 3 1, 3) := by decide +kernel
theorem dX3_passAnHour_76 : decode cX3_passAnHour 76 = .ok (.goto (-31), 3) := by decide +kernel
theorem dX3_passAnHour_79 : decode cX3_passAnHour 79 = .ok (.aload_n 0, 1) := by decide +kernel
theorem dX3_passAnHour_80 : decode cX3_passAnHour 80 = .ok (.dup, 1) := by decide +kernel
theorem dX3_passAnHour_81 : decode cX3_passAnHour 81 = .ok (.getfield 28, 3) := by decide +kernel
theorem dX3_passAnHour_84 : decode cX3_passAnHour 84 = .ok (.iconst 1, 1) := by decide +kernel
theorem dX3_passAnHour_85 : decode cX3_passAnHour 85 = .ok (.iadd, 1) := by decide +kernel
theorem dX3_passAnHour_86 : decode cX3_passAnHour 86 = .ok (.putfield 28, 3) := by decide +kernel
theorem dX3_passAnHour_89 : decode cX3_passAnHour 89 = .ok (.return_, 1) := by decide +kernel
theorem dX3_countOf_0 : decode cX3_countOf 0 = .ok (.iconst 0, 1) := by decide +kernel
theorem dX3_countOf_1 : decode cX3_countOf 1 = .ok (.istore_n 3, 1) := by decide +kernel
theorem dX3_countOf_2 : decode cX3_countOf 2 = .ok (.aload_n 0, 1) := by decide +kernel
theorem dX3_countOf_3 : decode cX3_countOf 3 = .ok (.getfield 17, 3) := by decide +kernel
theorem dX3_countOf_6 : decode cX3_countOf 6 = .ok (.astore 4, 2) := by decide +kernel
theorem dX3_countOf_8 : decode cX3_countOf 8 = .ok (.aload 4, 2) := by decide +kernel
theorem dX3_countOf_10 : decode cX3_countOf 10 = .ok (.arraylength, 1) := by decide +kernel
theorem dX3_countOf_11 : decode cX3_countOf 11 = .ok (.istore 5, 2) := by decide +kernel
theorem dX3_countOf_13 : decode cX3_countOf 13 = .ok (.iconst 0, 1) := by decide +kernel
theorem dX3_countOf_14 : decode cX3_countOf 14 = .ok (.istore 6, 2) := by decide +kernel
theorem dX3_countOf_16 : decode cX3_countOf 16 = .ok (.iload 6, 2) := by decide +kernel
theorem dX3_countOf_18 : decode cX3_countOf 18 = .ok (.iload 5, 2) := by decide +kernel
theorem dX3_countOf_20 : decode cX3_countOf 20 = .ok (.if_icmp .ge 37, 3) := by decide +kernel
theorem dX3_countOf_23 : decode cX3_countOf 23 = .ok (.aload 4, 2) := by decide +kernel
theorem dX3_countOf_25 : decode cX3_countOf 25 = .ok (.iload 6, 2) := by decide +kernel
theorem dX3_countOf_27 : decode cX3_countOf 27 = .ok (.aaload, 1) := by decide +kernel
theorem dX3_countOf_28 : decode cX3_countOf 28 = .ok (.astore 7, 2) := by decide +kernel
theorem dX3_countOf_30 : decode cX3_countOf 30 = .ok (.aload 7, 2) := by decide +kernel
theorem dX3_countOf_32 : decode cX3_countOf 32 = .ok (.getfield 84, 3) := by decide +kernel
theorem dX3_countOf_35 : decode cX3_countOf 35 = .ok (.aload_n 2, 1) := by decide +kernel
theorem dX3_countOf_36 : decode cX3_countOf 36 = .ok (.if_acmp .ne 15, 3) := by decide +kernel
theorem dX3_countOf_39 : decode cX3_countOf 39 = .ok (.aload 7, 2) := by decide +kernel
theorem dX3_countOf_41 : decode cX3_countOf 41 = .ok (.getfield 125, 3) := by decide +kernel
theorem dX3_countOf_44 : decode cX3_countOf 44 = .ok (.iload_n 1, 1) := by decide +kernel
theorem dX3_countOf_45 : decode cX3_countOf 45 = .ok (.if_icmp .ne 6, 3) := by decide +kernel
theorem dX3_countOf_48 : decode cX3_countOf 48 = .ok (.iinc 3 1, 3) := by decide +kernel
theorem dX3_countOf_51 : decode cX3_countOf 51 = .ok (.iinc 6 1, 3) := by decide +kernel
theorem dX3_countOf_54 : decode cX3_countOf 54 = .ok (.goto (-38), 3) := by decide +kernel
theorem dX3_countOf_57 : decode cX3_countOf 57 = .ok (.iload_n 3, 1) := by decide +kernel
theorem dX3_countOf_58 : decode cX3_countOf 58 = .ok (.ireturn, 1) := by decide +kernel
theorem dX3_tryOut_0 : decode cX3_tryOut 0 = .ok (.aload_n 0, 1) := by decide +kernel
theorem dX3_tryOut_1 : decode cX3_tryOut 1 = .ok (.getfield 38, 3) := by decide +kernel
theorem dX3_tryOut_4 : decode cX3_tryOut 4 = .ok (.aload_n 2, 1) := by decide +kernel
theorem dX3_tryOut_5 : decode cX3_tryOut 5 = .ok (.invokevirtual 223, 3) := by decide +kernel
theorem dX3_tryOut_8 : decode cX3_tryOut 8 = .ok (.aload_n 0, 1) := by decide +kernel
theorem dX3_tryOut_9 : decode cX3_tryOut 9 = .ok (.getfield 43, 3) := by decide +kernel
theorem dX3_tryOut_12 : decode cX3_tryOut 12 = .ok (.aload_n 1, 1) := by decide +kernel
theorem dX3_tryOut_13 : decode cX3_tryOut 13 = .ok (.aload_n 0, 1) := by decide +kernel
theorem dX3_tryOut_14 : decode cX3_tryOut 14 = .ok (.getfield 38, 3) := by decide +kernel
theorem dX3_tryOut_17 : decode cX3_tryOut 17 = .ok (.invokevirtual 227, 3) := by decide +kernel
theorem dX3_tryOut_20 : decode cX3_tryOut 20 = .ok (.return_, 1) := by decide +kernel
theorem dX3_tryAnHour_0 : decode cX3_tryAnHour 0 = .ok (.aload_n 0, 1) := by decide +kernel
theorem dX3_tryAnHour_1 : decode cX3_tryAnHour 1 = .ok (.getfield 38, 3) := by decide +kernel
theorem dX3_tryAnHour_4 : decode cX3_tryAnHour 4 = .ok (.iload_n 1, 1) := by decide +kernel
theorem dX3_tryAnHour_5 : decode cX3_tryAnHour 5 = .ok (.invokevirtual 217, 3) := by decide +kernel
theorem dX3_tryAnHour_8 : decode cX3_tryAnHour 8 = .ok (.aload_n 0, 1) := by decide +kernel
theorem dX3_tryAnHour_9 : decode cX3_tryAnHour 9 = .ok (.getfield 43, 3) := by decide +kernel
theorem dX3_tryAnHour_12 : decode cX3_tryAnHour 12 = .ok (.invokevirtual 221, 3) := by decide +kernel
theorem dX3_tryAnHour_15 : decode cX3_tryAnHour 15 = .ok (.ireturn, 1) := by decide +kernel
theorem dX3_triedHoursUntil_0 : decode cX3_triedHoursUntil 0 = .ok (.iconst 1, 1) := by decide +kernel
theorem dX3_triedHoursUntil_1 : decode cX3_triedHoursUntil 1 = .ok (.istore_n 2, 1) := by decide +kernel
theorem dX3_triedHoursUntil_2 : decode cX3_triedHoursUntil 2 = .ok (.iload_n 2, 1) := by decide +kernel
theorem dX3_triedHoursUntil_3 : decode cX3_triedHoursUntil 3 = .ok (.sipush 200, 3) := by decide +kernel
theorem dX3_triedHoursUntil_6 : decode cX3_triedHoursUntil 6 = .ok (.if_icmp .gt 31, 3) := by decide +kernel
theorem dX3_triedHoursUntil_9 : decode cX3_triedHoursUntil 9 = .ok (.aload_n 0, 1) := by decide +kernel
theorem dX3_triedHoursUntil_10 : decode cX3_triedHoursUntil 10 = .ok (.aload_n 0, 1) := by decide +kernel
theorem dX3_triedHoursUntil_11 : decode cX3_triedHoursUntil 11 = .ok (.getfield 31, 3) := by decide +kernel
theorem dX3_triedHoursUntil_14 : decode cX3_triedHoursUntil 14 = .ok (.invokevirtual 230, 3) := by decide +kernel
theorem dX3_triedHoursUntil_17 : decode cX3_triedHoursUntil 17 = .ok (.pop, 1) := by decide +kernel
theorem dX3_triedHoursUntil_18 : decode cX3_triedHoursUntil 18 = .ok (.aload_n 0, 1) := by decide +kernel
theorem dX3_triedHoursUntil_19 : decode cX3_triedHoursUntil 19 = .ok (.getfield 43, 3) := by decide +kernel
theorem dX3_triedHoursUntil_22 : decode cX3_triedHoursUntil 22 = .ok (.getfield 84, 3) := by decide +kernel
theorem dX3_triedHoursUntil_25 : decode cX3_triedHoursUntil 25 = .ok (.aload_n 1, 1) := by decide +kernel
theorem dX3_triedHoursUntil_26 : decode cX3_triedHoursUntil 26 = .ok (.if_acmp .ne 5, 3) := by decide +kernel
theorem dX3_triedHoursUntil_29 : decode cX3_triedHoursUntil 29 = .ok (.iload_n 2, 1) := by decide +kernel
theorem dX3_triedHoursUntil_30 : decode cX3_triedHoursUntil 30 = .ok (.ireturn, 1) := by decide +kernel
theorem dX3_triedHoursUntil_31 : decode cX3_triedHoursUntil 31 = .ok (.iinc 2 1, 3) := by decide +kernel
theorem dX3_triedHoursUntil_34 : decode cX3_triedHoursUntil 34 = .ok (.goto (-32), 3) := by decide +kernel
theorem dX3_triedHoursUntil_37 : decode cX3_triedHoursUntil 37 = .ok (.iconst (-1), 1) := by decide +kernel
theorem dX3_triedHoursUntil_38 : decode cX3_triedHoursUntil 38 = .ok (.ireturn, 1) := by decide +kernel
theorem dX3_hoursUntil_0 : decode cX3_hoursUntil 0 = .ok (.aload_n 1, 1) := by decide +kernel
theorem dX3_hoursUntil_1 : decode cX3_hoursUntil 1 = .ok (.getfield 84, 3) := by decide +kernel
theorem dX3_hoursUntil_4 : decode cX3_hoursUntil 4 = .ok (.aload_n 2, 1) := by decide +kernel
theorem dX3_hoursUntil_5 : decode cX3_hoursUntil 5 = .ok (.if_acmp .ne 5, 3) := by decide +kernel
theorem dX3_hoursUntil_8 : decode cX3_hoursUntil 8 = .ok (.iconst 0, 1) := by decide +kernel
theorem dX3_hoursUntil_9 : decode cX3_hoursUntil 9 = .ok (.ireturn, 1) := by decide +kernel
theorem dX3_hoursUntil_10 : decode cX3_hoursUntil 10 = .ok (.aload_n 1, 1) := by decide +kernel
theorem dX3_hoursUntil_11 : decode cX3_hoursUntil 11 = .ok (.getfield 77, 3) := by decide +kernel
theorem dX3_hoursUntil_14 : decode cX3_hoursUntil 14 = .ok (.astore_n 3, 1) := by decide +kernel
theorem dX3_hoursUntil_15 : decode cX3_hoursUntil 15 = .ok (.aload_n 3, 1) := by decide +kernel
theorem dX3_hoursUntil_16 : decode cX3_hoursUntil 16 = .ok (.ifnonnull 5, 3) := by decide +kernel
theorem dX3_hoursUntil_19 : decode cX3_hoursUntil 19 = .ok (.iconst (-1), 1) := by decide +kernel
theorem dX3_hoursUntil_20 : decode cX3_hoursUntil 20 = .ok (.ireturn, 1) := by decide +kernel
theorem dX3_hoursUntil_21 : decode cX3_hoursUntil 21 = .ok (.aload_n 0, 1) := by decide +kernel
theorem dX3_hoursUntil_22 : decode cX3_hoursUntil 22 = .ok (.aload_n 1, 1) := by decide +kernel
theorem dX3_hoursUntil_23 : decode cX3_hoursUntil 23 = .ok (.aload_n 3, 1) := by decide +kernel
theorem dX3_hoursUntil_24 : decode cX3_hoursUntil 24 = .ok (.invokevirtual 234, 3) := by decide +kernel
theorem dX3_hoursUntil_27 : decode cX3_hoursUntil 27 = .ok (.aload_n 0, 1) := by decide +kernel
theorem dX3_hoursUntil_28 : decode cX3_hoursUntil 28 = .ok (.aload_n 2, 1) := by decide +kernel
theorem dX3_hoursUntil_29 : decode cX3_hoursUntil 29 = .ok (.invokevirtual 237, 3) := by decide +kernel
theorem dX3_hoursUntil_32 : decode cX3_hoursUntil 32 = .ok (.ireturn, 1) := by decide +kernel
theorem dX3_liesBehind_0 : decode cX3_liesBehind 0 = .ok (.aload_n 1, 1) := by decide +kernel
theorem dX3_liesBehind_1 : decode cX3_liesBehind 1 = .ok (.getfield 77, 3) := by decide +kernel
theorem dX3_liesBehind_4 : decode cX3_liesBehind 4 = .ok (.astore_n 3, 1) := by decide +kernel
theorem dX3_liesBehind_5 : decode cX3_liesBehind 5 = .ok (.aload_n 3, 1) := by decide +kernel
theorem dX3_liesBehind_6 : decode cX3_liesBehind 6 = .ok (.ifnonnull 5, 3) := by decide +kernel
theorem dX3_liesBehind_9 : decode cX3_liesBehind 9 = .ok (.iconst 0, 1) := by decide +kernel
theorem dX3_liesBehind_10 : decode cX3_liesBehind 10 = .ok (.ireturn, 1) := by decide +kernel
theorem dX3_liesBehind_11 : decode cX3_liesBehind 11 = .ok (.aload_n 0, 1) := by decide +kernel
theorem dX3_liesBehind_12 : decode cX3_liesBehind 12 = .ok (.aload_n 1, 1) := by decide +kernel
theorem dX3_liesBehind_13 : decode cX3_liesBehind 13 = .ok (.aload_n 3, 1) := by decide +kernel
theorem dX3_liesBehind_14 : decode cX3_liesBehind 14 = .ok (.invokevirtual 234, 3) := by decide +kernel
theorem dX3_liesBehind_17 : decode cX3_liesBehind 17 = .ok (.iconst 0, 1) := by decide +kernel
theorem dX3_liesBehind_18 : decode cX3_liesBehind 18 = .ok (.istore 4, 2) := by decide +kernel
theorem dX3_liesBehind_20 : decode cX3_liesBehind 20 = .ok (.iload 4, 2) := by decide +kernel
theorem dX3_liesBehind_22 : decode cX3_liesBehind 22 = .ok (.iload_n 2, 1) := by decide +kernel
theorem dX3_liesBehind_23 : decode cX3_liesBehind 23 = .ok (.if_icmp .ge 18, 3) := by decide +kernel
theorem dX3_liesBehind_26 : decode cX3_liesBehind 26 = .ok (.aload_n 0, 1) := by decide +kernel
theorem dX3_liesBehind_27 : decode cX3_liesBehind 27 = .ok (.aload_n 0, 1) := by decide +kernel
theorem dX3_liesBehind_28 : decode cX3_liesBehind 28 = .ok (.getfield 31, 3) := by decide +kernel
theorem dX3_liesBehind_31 : decode cX3_liesBehind 31 = .ok (.invokevirtual 230, 3) := by decide +kernel
theorem dX3_liesBehind_34 : decode cX3_liesBehind 34 = .ok (.pop, 1) := by decide +kernel
theorem dX3_liesBehind_35 : decode cX3_liesBehind 35 = .ok (.iinc 4 1, 3) := by decide +kernel
theorem dX3_liesBehind_38 : decode cX3_liesBehind 38 = .ok (.goto (-18), 3) := by decide +kernel
theorem dX3_liesBehind_41 : decode cX3_liesBehind 41 = .ok (.aload_n 0, 1) := by decide +kernel
theorem dX3_liesBehind_42 : decode cX3_liesBehind 42 = .ok (.getfield 43, 3) := by decide +kernel
theorem dX3_liesBehind_45 : decode cX3_liesBehind 45 = .ok (.getfield 77, 3) := by decide +kernel
theorem dX3_liesBehind_48 : decode cX3_liesBehind 48 = .ok (.ifnull 7, 3) := by decide +kernel
theorem dX3_liesBehind_51 : decode cX3_liesBehind 51 = .ok (.iconst 1, 1) := by decide +kernel
theorem dX3_liesBehind_52 : decode cX3_liesBehind 52 = .ok (.goto 4, 3) := by decide +kernel
theorem dX3_liesBehind_55 : decode cX3_liesBehind 55 = .ok (.iconst 0, 1) := by decide +kernel
theorem dX3_liesBehind_56 : decode cX3_liesBehind 56 = .ok (.ireturn, 1) := by decide +kernel
theorem dX3_hoursToFreezeAnew_0 : decode cX3_hoursToFreezeAnew 0 = .ok (.aload_n 0, 1) := by decide +kernel
theorem dX3_hoursToFreezeAnew_1 : decode cX3_hoursToFreezeAnew 1 = .ok (.getfield 38, 3) := by decide +kernel
theorem dX3_hoursToFreezeAnew_4 : decode cX3_hoursToFreezeAnew 4 = .ok (.aload_n 1, 1) := by decide +kernel
theorem dX3_hoursToFreezeAnew_5 : decode cX3_hoursToFreezeAnew 5 = .ok (.invokevirtual 223, 3) := by decide +kernel
theorem dX3_hoursToFreezeAnew_8 : decode cX3_hoursToFreezeAnew 8 = .ok (.aload_n 0, 1) := by decide +kernel
theorem dX3_hoursToFreezeAnew_9 : decode cX3_hoursToFreezeAnew 9 = .ok (.getfield 38, 3) := by decide +kernel
theorem dX3_hoursToFreezeAnew_12 : decode cX3_hoursToFreezeAnew 12 = .ok (.invokevirtual 70, 3) := by decide +kernel
theorem dX3_hoursToFreezeAnew_15 : decode cX3_hoursToFreezeAnew 15 = .ok (.aload_n 0, 1) := by decide +kernel
theorem dX3_hoursToFreezeAnew_16 : decode cX3_hoursToFreezeAnew 16 = .ok (.getfield 43, 3) := by decide +kernel
theorem dX3_hoursToFreezeAnew_19 : decode cX3_hoursToFreezeAnew 19 = .ok (.iconst 0, 1) := by decide +kernel
theorem dX3_hoursToFreezeAnew_20 : decode cX3_hoursToFreezeAnew 20 = .ok (.bipush 100, 2) := by decide +kernel
theorem dX3_hoursToFreezeAnew_22 : decode cX3_hoursToFreezeAnew 22 = .ok (.aload_n 0, 1) := by decide +kernel
theorem dX3_hoursToFreezeAnew_23 : decode cX3_hoursToFreezeAnew 23 = .ok (.getfield 38, 3) := by decide +kernel
theorem dX3_hoursToFreezeAnew_26 : decode cX3_hoursToFreezeAnew 26 = .ok (.invokevirtual 66, 3) := by decide +kernel
theorem dX3_hoursToFreezeAnew_29 : decode cX3_hoursToFreezeAnew 29 = .ok (.aload_n 0, 1) := by decide +kernel
theorem dX3_hoursToFreezeAnew_30 : decode cX3_hoursToFreezeAnew 30 = .ok (.getstatic 129, 3) := by decide +kernel
theorem dX3_hoursToFreezeAnew_33 : decode cX3_hoursToFreezeAnew 33 = .ok (.invokevirtual 237, 3) := by decide +kernel
theorem dX3_hoursToFreezeAnew_36 : decode cX3_hoursToFreezeAnew 36 = .ok (.ireturn, 1) := by decide +kernel
theorem dX3_hoursToAlarmWithoutPower_0 : decode cX3_hoursToAlarmWithoutPower 0 = .ok (.aload_n 1, 1) := by decide +kernel
theorem dX3_hoursToAlarmWithoutPower_1 : decode cX3_hoursToAlarmWithoutPower 1 = .ok (.getfield 77, 3) := by decide +kernel
theorem dX3_hoursToAlarmWithoutPower_4 : decode cX3_hoursToAlarmWithoutPower 4 = .ok (.astore_n 2, 1) := by decide +kernel
theorem dX3_hoursToAlarmWithoutPower_5 : decode cX3_hoursToAlarmWithoutPower 5 = .ok (.aload_n 2, 1) := by decide +kernel
theorem dX3_hoursToAlarmWithoutPower_6 : decode cX3_hoursToAlarmWithoutPower 6 = .ok (.ifnonnull 5, 3) := by decide +kernel
theorem dX3_hoursToAlarmWithoutPower_9 : decode cX3_hoursToAlarmWithoutPower 9 = .ok (.iconst (-1), 1) := by decide +kernel
theorem dX3_hoursToAlarmWithoutPower_10 : decode cX3_hoursToAlarmWithoutPower 10 = .ok (.ireturn, 1) := by decide +kernel
theorem dX3_hoursToAlarmWithoutPower_11 : decode cX3_hoursToAlarmWithoutPower 11 = .ok (.aload_n 0, 1) := by decide +kernel
theorem dX3_hoursToAlarmWithoutPower_12 : decode cX3_hoursToAlarmWithoutPower 12 = .ok (.aload_n 1, 1) := by decide +kernel
theorem dX3_hoursToAlarmWithoutPower_13 : decode cX3_hoursToAlarmWithoutPower 13 = .ok (.aload_n 2, 1) := by decide +kernel
theorem dX3_hoursToAlarmWithoutPower_14 : decode cX3_hoursToAlarmWithoutPower 14 = .ok (.invokevirtual 234, 3) := by decide +kernel
theorem dX3_hoursToAlarmWithoutPower_17 : decode cX3_hoursToAlarmWithoutPower 17 = .ok (.iconst 1, 1) := by decide +kernel
theorem dX3_hoursToAlarmWithoutPower_18 : decode cX3_hoursToAlarmWithoutPower 18 = .ok (.istore_n 3, 1) := by decide +kernel
theorem dX3_hoursToAlarmWithoutPower_19 : decode cX3_hoursToAlarmWithoutPower 19 = .ok (.iload_n 3, 1) := by decide +kernel
theorem dX3_hoursToAlarmWithoutPower_20 : decode cX3_hoursToAlarmWithoutPower 20 = .ok (.sipush 200, 3) := by decide +kernel
theorem dX3_hoursToAlarmWithoutPower_23 : decode cX3_hoursToAlarmWithoutPower 23 = .ok (.if_icmp .gt 19, 3) := by decide +kernel
theorem dX3_hoursToAlarmWithoutPower_26 : decode cX3_hoursToAlarmWithoutPower 26 = .ok (.aload_n 0, 1) := by decide +kernel
theorem dX3_hoursToAlarmWithoutPower_27 : decode cX3_hoursToAlarmWithoutPower 27 = .ok (.iconst 0, 1) := by decide +kernel
theorem dX3_hoursToAlarmWithoutPower_28 : decode cX3_hoursToAlarmWithoutPower 28 = .ok (.invokevirtual 230, 3) := by decide +kernel
theorem dX3_hoursToAlarmWithoutPower_31 : decode cX3_hoursToAlarmWithoutPower 31 = .ok (.ifCond .eq 5, 3) := by decide +kernel
theorem dX3_hoursToAlarmWithoutPower_34 : decode cX3_hoursToAlarmWithoutPower 34 = .ok (.iload_n 3, 1) := by decide +kernel
theorem dX3_hoursToAlarmWithoutPower_35 : decode cX3_hoursToAlarmWithoutPower 35 = .ok (.ireturn, 1) := by decide +kernel
theorem dX3_hoursToAlarmWithoutPower_36 : decode cX3_hoursToAlarmWithoutPower 36 = .ok (.iinc 3 1, 3) := by decide +kernel
theorem dX3_hoursToAlarmWithoutPower_39 : decode cX3_hoursToAlarmWithoutPower 39 = .ok (.goto (-20), 3) := by decide +kernel
theorem dX3_hoursToAlarmWithoutPower_42 : decode cX3_hoursToAlarmWithoutPower 42 = .ok (.iconst (-1), 1) := by decide +kernel
theorem dX3_hoursToAlarmWithoutPower_43 : decode cX3_hoursToAlarmWithoutPower 43 = .ok (.ireturn, 1) := by decide +kernel
theorem dX3_isSooner_0 : decode cX3_isSooner 0 = .ok (.iload_n 0, 1) := by decide +kernel
theorem dX3_isSooner_1 : decode cX3_isSooner 1 = .ok (.iconst (-1), 1) := by decide +kernel
theorem dX3_isSooner_2 : decode cX3_isSooner 2 = .ok (.if_icmp .eq 17, 3) := by decide +kernel
theorem dX3_isSooner_5 : decode cX3_isSooner 5 = .ok (.iload_n 1, 1) := by decide +kernel
theorem dX3_isSooner_6 : decode cX3_isSooner 6 = .ok (.iconst (-1), 1) := by decide +kernel
theorem dX3_isSooner_7 : decode cX3_isSooner 7 = .ok (.if_icmp .eq 8, 3) := by decide +kernel
theorem dX3_isSooner_10 : decode cX3_isSooner 10 = .ok (.iload_n 0, 1) := by decide +kernel
theorem dX3_isSooner_11 : decode cX3_isSooner 11 = .ok (.iload_n 1, 1) := by decide +kernel
theorem dX3_isSooner_12 : decode cX3_isSooner 12 = .ok (.if_icmp .ge 7, 3) := by decide +kernel
theorem dX3_isSooner_15 : decode cX3_isSooner 15 = .ok (.iconst 1, 1) := by decide +kernel
theorem dX3_isSooner_16 : decode cX3_isSooner 16 = .ok (.goto 4, 3) := by decide +kernel
theorem dX3_isSooner_19 : decode cX3_isSooner 19 = .ok (.iconst 0, 1) := by decide +kernel
theorem dX3_isSooner_20 : decode cX3_isSooner 20 = .ok (.ireturn, 1) := by decide +kernel
theorem dX3_asNumber_0 : decode cX3_asNumber 0 = .ok (.iload_n 0, 1) := by decide +kernel
theorem dX3_asNumber_1 : decode cX3_asNumber 1 = .ok (.ifCond .eq 7, 3) := by decide +kernel
theorem dX3_asNumber_4 : decode cX3_asNumber 4 = .ok (.iconst 1, 1) := by decide +kernel
theorem dX3_asNumber_5 : decode cX3_asNumber 5 = .ok (.goto 4, 3) := by decide +kernel
theorem dX3_asNumber_8 : decode cX3_asNumber 8 = .ok (.iconst 0, 1) := by decide +kernel
theorem dX3_asNumber_9 : decode cX3_asNumber 9 = .ok (.ireturn, 1) := by decide +kernel
theorem dX3_withShelves_0 : decode cX3_withShelves 0 = .ok (.lload_n 1, 1) := by decide +kernel
theorem dX3_withShelves_1 : decode cX3_withShelves 1 = .ok (.lstore_n 3, 1) := by decide +kernel
theorem dX3_withShelves_2 : decode cX3_withShelves 2 = .ok (.iconst 0, 1) := by decide +kernel
theorem dX3_withShelves_3 : decode cX3_withShelves 3 = .ok (.istore 5, 2) := by decide +kernel
theorem dX3_withShelves_5 : decode cX3_withShelves 5 = .ok (.iload 5, 2) := by decide +kernel
theorem dX3_withShelves_7 : decode cX3_withShelves 7 = .ok (.iconst 5, 1) := by decide +kernel
theorem dX3_withShelves_8 : decode cX3_withShelves 8 = .ok (.if_icmp .ge 51, 3) := by decide +kernel
theorem dX3_withShelves_11 : decode cX3_withShelves 11 = .ok (.lload_n 3, 1) := by decide +kernel
theorem dX3_withShelves_12 : decode cX3_withShelves 12 = .ok (.ldc2_w 165, 3) := by decide +kernel
theorem dX3_withShelves_15 : decode cX3_withShelves 15 = .ok (.lmul, 1) := by decide +kernel
theorem dX3_withShelves_16 : decode cX3_withShelves 16 = .ok (.aload_n 0, 1) := by decide +kernel
theorem dX3_withShelves_17 : decode cX3_withShelves 17 = .ok (.iload 5, 2) := by decide +kernel
theorem dX3_withShelves_19 : decode cX3_withShelves 19 = .ok (.invokevirtual 241, 3) := by decide +kernel
theorem dX3_withShelves_22 : decode cX3_withShelves 22 = .ok (.i2l, 1) := by decide +kernel
theorem dX3_withShelves_23 : decode cX3_withShelves 23 = .ok (.ladd, 1) := by decide +kernel
theorem dX3_withShelves_24 : decode cX3_withShelves 24 = .ok (.lstore_n 3, 1) := by decide +kernel
theorem dX3_withShelves_25 : decode cX3_withShelves 25 = .ok (.lload_n 3, 1) := by decide +kernel
theorem dX3_withShelves_26 : decode cX3_withShelves 26 = .ok (.ldc2_w 165, 3) := by decide +kernel
theorem dX3_withShelves_29 : decode cX3_withShelves 29 = .ok (.lmul, 1) := by decide +kernel
theorem dX3_withShelves_30 : decode cX3_withShelves 30 = .ok (.aload_n 0, 1) := by decide +kernel
theorem dX3_withShelves_31 : decode cX3_withShelves 31 = .ok (.iload 5, 2) := by decide +kernel
theorem dX3_withShelves_33 : decode cX3_withShelves 33 = .ok (.invokevirtual 244, 3) := by decide +kernel
theorem dX3_withShelves_36 : decode cX3_withShelves 36 = .ok (.i2l, 1) := by decide +kernel
theorem dX3_withShelves_37 : decode cX3_withShelves 37 = .ok (.ladd, 1) := by decide +kernel
theorem dX3_withShelves_38 : decode cX3_withShelves 38 = .ok (.lstore_n 3, 1) := by decide +kernel
theorem dX3_withShelves_39 : decode cX3_withShelves 39 = .ok (.lload_n 3, 1) := by decide +kernel
theorem dX3_withShelves_40 : decode cX3_withShelves 40 = .ok (.ldc2_w 165, 3) := by decide +kernel
theorem dX3_withShelves_43 : decode cX3_withShelves 43 = .ok (.lmul, 1) := by decide +kernel
theorem dX3_withShelves_44 : decode cX3_withShelves 44 = .ok (.aload_n 0, 1) := by decide +kernel
theorem dX3_withShelves_45 : decode cX3_withShelves 45 = .ok (.iload 5, 2) := by decide +kernel
theorem dX3_withShelves_47 : decode cX3_withShelves 47 = .ok (.invokevirtual 247, 3) := by decide +kernel
theorem dX3_withShelves_50 : decode cX3_withShelves 50 = .ok (.i2l, 1) := by decide +kernel
theorem dX3_withShelves_51 : decode cX3_withShelves 51 = .ok (.ladd, 1) := by decide +kernel
theorem dX3_withShelves_52 : decode cX3_withShelves 52 = .ok (.lstore_n 3, 1) := by decide +kernel
theorem dX3_withShelves_53 : decode cX3_withShelves 53 = .ok (.iinc 5 1, 3) := by decide +kernel
theorem dX3_withShelves_56 : decode cX3_withShelves 56 = .ok (.goto (-51), 3) := by decide +kernel
theorem dX3_withShelves_59 : decode cX3_withShelves 59 = .ok (.lload_n 3, 1) := by decide +kernel
theorem dX3_withShelves_60 : decode cX3_withShelves 60 = .ok (.lreturn, 1) := by decide +kernel
theorem dX3_withPromises_0 : decode cX3_withPromises 0 = .ok (.lload_n 1, 1) := by decide +kernel
theorem dX3_withPromises_1 : decode cX3_withPromises 1 = .ok (.lstore_n 3, 1) := by decide +kernel
theorem dX3_withPromises_2 : decode cX3_withPromises 2 = .ok (.iconst 0, 1) := by decide +kernel
theorem dX3_withPromises_3 : decode cX3_withPromises 3 = .ok (.istore 5, 2) := by decide +kernel
theorem dX3_withPromises_5 : decode cX3_withPromises 5 = .ok (.iload 5, 2) := by decide +kernel
theorem dX3_withPromises_7 : decode cX3_withPromises 7 = .ok (.aload_n 0, 1) := by decide +kernel
theorem dX3_withPromises_8 : decode cX3_withPromises 8 = .ok (.getfield 21, 3) := by decide +kernel
theorem dX3_withPromises_11 : decode cX3_withPromises 11 = .ok (.if_icmp .ge 147, 3) := by decide +kernel
theorem dX3_withPromises_14 : decode cX3_withPromises 14 = .ok (.lload_n 3, 1) := by decide +kernel
theorem dX3_withPromises_15 : decode cX3_withPromises 15 = .ok (.ldc2_w 165, 3) := by decide +kernel
theorem dX3_withPromises_18 : decode cX3_withPromises 18 = .ok (.lmul, 1) := by decide +kernel
theorem dX3_withPromises_19 : decode cX3_withPromises 19 = .ok (.aload_n 0, 1) := by decide +kernel
theorem dX3_withPromises_20 : decode cX3_withPromises 20 = .ok (.iload 5, 2) := by decide +kernel
theorem dX3_withPromises_22 : decode cX3_withPromises 22 = .ok (.invokevirtual 250, 3) := by decide +kernel
theorem dX3_withPromises_25 : decode cX3_withPromises 25 = .ok (.i2l, 1) := by decide +kernel
theorem dX3_withPromises_26 : decode cX3_withPromises 26 = .ok (.ladd, 1) := by decide +kernel
theorem dX3_withPromises_27 : decode cX3_withPromises 27 = .ok (.lstore_n 3, 1) := by decide +kernel
theorem dX3_withPromises_28 : decode cX3_withPromises 28 = .ok (.lload_n 3, 1) := by decide +kernel
theorem dX3_withPromises_29 : decode cX3_withPromises 29 = .ok (.ldc2_w 165, 3) := by decide +kernel
theorem dX3_withPromises_32 : decode cX3_withPromises 32 = .ok (.lmul, 1) := by decide +kernel
theorem dX3_withPromises_33 : decode cX3_withPromises 33 = .ok (.aload_n 0, 1) := by decide +kernel
theorem dX3_withPromises_34 : decode cX3_withPromises 34 = .ok (.iload 5, 2) := by decide +kernel
theorem dX3_withPromises_36 : decode cX3_withPromises 36 = .ok (.invokevirtual 253, 3) := by decide +kernel
theorem dX3_withPromises_39 : decode cX3_withPromises 39 = .ok (.i2l, 1) := by decide +kernel
theorem dX3_withPromises_40 : decode cX3_withPromises 40 = .ok (.ladd, 1) := by decide +kernel
theorem dX3_withPromises_41 : decode cX3_withPromises 41 = .ok (.lstore_n 3, 1) := by decide +kernel
theorem dX3_withPromises_42 : decode cX3_withPromises 42 = .ok (.lload_n 3, 1) := by decide +kernel
theorem dX3_withPromises_43 : decode cX3_withPromises 43 = .ok (.ldc2_w 165, 3) := by decide +kernel
theorem dX3_withPromises_46 : decode cX3_withPromises 46 = .ok (.lmul, 1) := by decide +kernel
theorem dX3_withPromises_47 : decode cX3_withPromises 47 = .ok (.aload_n 0, 1) := by decide +kernel
theorem dX3_withPromises_48 : decode cX3_withPromises 48 = .ok (.iload 5, 2) := by decide +kernel
theorem dX3_withPromises_50 : decode cX3_withPromises 50 = .ok (.invokevirtual 256, 3) := by decide +kernel
theorem dX3_withPromises_53 : decode cX3_withPromises 53 = .ok (.i2l, 1) := by decide +kernel
theorem dX3_withPromises_54 : decode cX3_withPromises 54 = .ok (.ladd, 1) := by decide +kernel
theorem dX3_withPromises_55 : decode cX3_withPromises 55 = .ok (.lstore_n 3, 1) := by decide +kernel
theorem dX3_withPromises_56 : decode cX3_withPromises 56 = .ok (.lload_n 3, 1) := by decide +kernel
theorem dX3_withPromises_57 : decode cX3_withPromises 57 = .ok (.ldc2_w 165, 3) := by decide +kernel
theorem dX3_withPromises_60 : decode cX3_withPromises 60 = .ok (.lmul, 1) := by decide +kernel
theorem dX3_withPromises_61 : decode cX3_withPromises 61 = .ok (.aload_n 0, 1) := by decide +kernel
theorem dX3_withPromises_62 : decode cX3_withPromises 62 = .ok (.iload 5, 2) := by decide +kernel
theorem dX3_withPromises_64 : decode cX3_withPromises 64 = .ok (.invokevirtual 259, 3) := by decide +kernel
theorem dX3_withPromises_67 : decode cX3_withPromises 67 = .ok (.i2l, 1) := by decide +kernel
theorem dX3_withPromises_68 : decode cX3_withPromises 68 = .ok (.ladd, 1) := by decide +kernel
theorem dX3_withPromises_69 : decode cX3_withPromises 69 = .ok (.lstore_n 3, 1) := by decide +kernel
theorem dX3_withPromises_70 : decode cX3_withPromises 70 = .ok (.lload_n 3, 1) := by decide +kernel
theorem dX3_withPromises_71 : decode cX3_withPromises 71 = .ok (.ldc2_w 165, 3) := by decide +kernel
theorem dX3_withPromises_74 : decode cX3_withPromises 74 = .ok (.lmul, 1) := by decide +kernel
theorem dX3_withPromises_75 : decode cX3_withPromises 75 = .ok (.aload_n 0, 1) := by decide +kernel
theorem dX3_withPromises_76 : decode cX3_withPromises 76 = .ok (.iload 5, 2) := by decide +kernel
theorem dX3_withPromises_78 : decode cX3_withPromises 78 = .ok (.invokevirtual 262, 3) := by decide +kernel
theorem dX3_withPromises_81 : decode cX3_withPromises 81 = .ok (.i2l, 1) := by decide +kernel
theorem dX3_withPromises_82 : decode cX3_withPromises 82 = .ok (.ladd, 1) := by decide +kernel
theorem dX3_withPromises_83 : decode cX3_withPromises 83 = .ok (.lstore_n 3, 1) := by decide +kernel
theorem dX3_withPromises_84 : decode cX3_withPromises 84 = .ok (.lload_n 3, 1) := by decide +kernel
theorem dX3_withPromises_85 : decode cX3_withPromises 85 = .ok (.ldc2_w 165, 3) := by decide +kernel
theorem dX3_withPromises_88 : decode cX3_withPromises 88 = .ok (.lmul, 1) := by decide +kernel
theorem dX3_withPromises_89 : decode cX3_withPromises 89 = .ok (.aload_n 0, 1) := by decide +kernel
theorem dX3_withPromises_90 : decode cX3_withPromises 90 = .ok (.iload 5, 2) := by decide +kernel
theorem dX3_withPromises_92 : decode cX3_withPromises 92 = .ok (.invokevirtual 265, 3) := by decide +kernel
theorem dX3_withPromises_95 : decode cX3_withPromises 95 = .ok (.invokestatic 175, 3) := by decide +kernel
theorem dX3_withPromises_98 : decode cX3_withPromises 98 = .ok (.i2l, 1) := by decide +kernel
theorem dX3_withPromises_99 : decode cX3_withPromises 99 = .ok (.ladd, 1) := by decide +kernel
theorem dX3_withPromises_100 : decode cX3_withPromises 100 = .ok (.lstore_n 3, 1) := by decide +kernel
theorem dX3_withPromises_101 : decode cX3_withPromises 101 = .ok (.lload_n 3, 1) := by decide +kernel
theorem dX3_withPromises_102 : decode cX3_withPromises 102 = .ok (.ldc2_w 165, 3) := by decide +kernel
theorem dX3_withPromises_105 : decode cX3_withPromises 105 = .ok (.lmul, 1) := by decide +kernel
theorem dX3_withPromises_106 : decode cX3_withPromises 106 = .ok (.aload_n 0, 1) := by decide +kernel
theorem dX3_withPromises_107 : decode cX3_withPromises 107 = .ok (.iload 5, 2) := by decide +kernel
theorem dX3_withPromises_109 : decode cX3_withPromises 109 = .ok (.invokevirtual 269, 3) := by decide +kernel
theorem dX3_withPromises_112 : decode cX3_withPromises 112 = .ok (.invokestatic 175, 3) := by decide +kernel
theorem dX3_withPromises_115 : decode cX3_withPromises 115 = .ok (.i2l, 1) := by decide +kernel
theorem dX3_withPromises_116 : decode cX3_withPromises 116 = .ok (.ladd, 1) := by decide +kernel
theorem dX3_withPromises_117 : decode cX3_withPromises 117 = .ok (.lstore_n 3, 1) := by decide +kernel
theorem dX3_withPromises_118 : decode cX3_withPromises 118 = .ok (.lload_n 3, 1) := by decide +kernel
theorem dX3_withPromises_119 : decode cX3_withPromises 119 = .ok (.ldc2_w 165, 3) := by decide +kernel
theorem dX3_withPromises_122 : decode cX3_withPromises 122 = .ok (.lmul, 1) := by decide +kernel
theorem dX3_withPromises_123 : decode cX3_withPromises 123 = .ok (.aload_n 0, 1) := by decide +kernel
theorem dX3_withPromises_124 : decode cX3_withPromises 124 = .ok (.iload 5, 2) := by decide +kernel
theorem dX3_withPromises_126 : decode cX3_withPromises 126 = .ok (.invokevirtual 272, 3) := by decide +kernel
theorem dX3_withPromises_129 : decode cX3_withPromises 129 = .ok (.invokestatic 175, 3) := by decide +kernel
theorem dX3_withPromises_132 : decode cX3_withPromises 132 = .ok (.i2l, 1) := by decide +kernel
theorem dX3_withPromises_133 : decode cX3_withPromises 133 = .ok (.ladd, 1) := by decide +kernel
theorem dX3_withPromises_134 : decode cX3_withPromises 134 = .ok (.lstore_n 3, 1) := by decide +kernel
theorem dX3_withPromises_135 : decode cX3_withPromises 135 = .ok (.lload_n 3, 1) := by decide +kernel
theorem dX3_withPromises_136 : decode cX3_withPromises 136 = .ok (.ldc2_w 165, 3) := by decide +kernel
theorem dX3_withPromises_139 : decode cX3_withPromises 139 = .ok (.lmul, 1) := by decide +kernel
theorem dX3_withPromises_140 : decode cX3_withPromises 140 = .ok (.aload_n 0, 1) := by decide +kernel
theorem dX3_withPromises_141 : decode cX3_withPromises 141 = .ok (.iload 5, 2) := by decide +kernel
theorem dX3_withPromises_143 : decode cX3_withPromises 143 = .ok (.invokevirtual 275, 3) := by decide +kernel
theorem dX3_withPromises_146 : decode cX3_withPromises 146 = .ok (.invokestatic 175, 3) := by decide +kernel
theorem dX3_withPromises_149 : decode cX3_withPromises 149 = .ok (.i2l, 1) := by decide +kernel
theorem dX3_withPromises_150 : decode cX3_withPromises 150 = .ok (.ladd, 1) := by decide +kernel
theorem dX3_withPromises_151 : decode cX3_withPromises 151 = .ok (.lstore_n 3, 1) := by decide +kernel
theorem dX3_withPromises_152 : decode cX3_withPromises 152 = .ok (.iinc 5 1, 3) := by decide +kernel
theorem dX3_withPromises_155 : decode cX3_withPromises 155 = .ok (.goto (-150), 3) := by decide +kernel
theorem dX3_withPromises_158 : decode cX3_withPromises 158 = .ok (.lload_n 3, 1) := by decide +kernel
theorem dX3_withPromises_159 : decode cX3_withPromises 159 = .ok (.lreturn, 1) := by decide +kernel
theorem dX3_withMakers_0 : decode cX3_withMakers 0 = .ok (.lload_n 1, 1) := by decide +kernel
theorem dX3_withMakers_1 : decode cX3_withMakers 1 = .ok (.lstore_n 3, 1) := by decide +kernel
theorem dX3_withMakers_2 : decode cX3_withMakers 2 = .ok (.iconst 0, 1) := by decide +kernel
theorem dX3_withMakers_3 : decode cX3_withMakers 3 = .ok (.istore 5, 2) := by decide +kernel
theorem dX3_withMakers_5 : decode cX3_withMakers 5 = .ok (.iload 5, 2) := by decide +kernel
theorem dX3_withMakers_7 : decode cX3_withMakers 7 = .ok (.bipush 6, 2) := by decide +kernel
theorem dX3_withMakers_9 : decode cX3_withMakers 9 = .ok (.if_icmp .ge 37, 3) := by decide +kernel
theorem dX3_withMakers_12 : decode cX3_withMakers 12 = .ok (.lload_n 3, 1) := by decide +kernel
theorem dX3_withMakers_13 : decode cX3_withMakers 13 = .ok (.ldc2_w 165, 3) := by decide +kernel
theorem dX3_withMakers_16 : decode cX3_withMakers 16 = .ok (.lmul, 1) := by decide +kernel
theorem dX3_withMakers_17 : decode cX3_withMakers 17 = .ok (.aload_n 0, 1) := by decide +kernel
theorem dX3_withMakers_18 : decode cX3_withMakers 18 = .ok (.iload 5, 2) := by decide +kernel
theorem dX3_withMakers_20 : decode cX3_withMakers 20 = .ok (.invokevirtual 278, 3) := by decide +kernel
theorem dX3_withMakers_23 : decode cX3_withMakers 23 = .ok (.i2l, 1) := by decide +kernel
theorem dX3_withMakers_24 : decode cX3_withMakers 24 = .ok (.ladd, 1) := by decide +kernel
theorem dX3_withMakers_25 : decode cX3_withMakers 25 = .ok (.lstore_n 3, 1) := by decide +kernel
theorem dX3_withMakers_26 : decode cX3_withMakers 26 = .ok (.lload_n 3, 1) := by decide +kernel
theorem dX3_withMakers_27 : decode cX3_withMakers 27 = .ok (.ldc2_w 165, 3) := by decide +kernel
theorem dX3_withMakers_30 : decode cX3_withMakers 30 = .ok (.lmul, 1) := by decide +kernel
theorem dX3_withMakers_31 : decode cX3_withMakers 31 = .ok (.aload_n 0, 1) := by decide +kernel
theorem dX3_withMakers_32 : decode cX3_withMakers 32 = .ok (.iload 5, 2) := by decide +kernel
theorem dX3_withMakers_34 : decode cX3_withMakers 34 = .ok (.invokevirtual 139, 3) := by decide +kernel
theorem dX3_withMakers_37 : decode cX3_withMakers 37 = .ok (.i2l, 1) := by decide +kernel
theorem dX3_withMakers_38 : decode cX3_withMakers 38 = .ok (.ladd, 1) := by decide +kernel
theorem dX3_withMakers_39 : decode cX3_withMakers 39 = .ok (.lstore_n 3, 1) := by decide +kernel
theorem dX3_withMakers_40 : decode cX3_withMakers 40 = .ok (.iinc 5 1, 3) := by decide +kernel
theorem dX3_withMakers_43 : decode cX3_withMakers 43 = .ok (.goto (-38), 3) := by decide +kernel
theorem dX3_withMakers_46 : decode cX3_withMakers 46 = .ok (.lload_n 3, 1) := by decide +kernel
theorem dX3_withMakers_47 : decode cX3_withMakers 47 = .ok (.lreturn, 1) := by decide +kernel

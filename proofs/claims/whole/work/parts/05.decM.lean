theorem dM_init_0 : decode cM_init 0 = .ok (.aload_n 0, 1) := by decide +kernel
theorem dM_init_1 : decode cM_init 1 = .ok (.invokespecial 1, 3) := by decide +kernel
theorem dM_init_4 : decode cM_init 4 = .ok (.aload_n 0, 1) := by decide +kernel
theorem dM_init_5 : decode cM_init 5 = .ok (.bipush 20, 2) := by decide +kernel
theorem dM_init_7 : decode cM_init 7 = .ok (.newarray .int, 2) := by decide +kernel
theorem dM_init_9 : decode cM_init 9 = .ok (.putfield 7, 3) := by decide +kernel
theorem dM_init_12 : decode cM_init 12 = .ok (.aload_n 0, 1) := by decide +kernel
theorem dM_init_13 : decode cM_init 13 = .ok (.bipush 8, 2) := by decide +kernel
theorem dM_init_15 : decode cM_init 15 = .ok (.newarray .int, 2) := by decide +kernel
theorem dM_init_17 : decode cM_init 17 = .ok (.putfield 13, 3) := by decide +kernel
theorem dM_init_20 : decode cM_init 20 = .ok (.aload_n 0, 1) := by decide +kernel
theorem dM_init_21 : decode cM_init 21 = .ok (.sipush 384, 3) := by decide +kernel
theorem dM_init_24 : decode cM_init 24 = .ok (.newarray .int, 2) := by decide +kernel
theorem dM_init_26 : decode cM_init 26 = .ok (.putfield 16, 3) := by decide +kernel
theorem dM_init_29 : decode cM_init 29 = .ok (.aload_n 0, 1) := by decide +kernel
theorem dM_init_30 : decode cM_init 30 = .ok (.sipush 384, 3) := by decide +kernel
theorem dM_init_33 : decode cM_init 33 = .ok (.newarray .int, 2) := by decide +kernel
theorem dM_init_35 : decode cM_init 35 = .ok (.putfield 19, 3) := by decide +kernel
theorem dM_init_38 : decode cM_init 38 = .ok (.aload_n 0, 1) := by decide +kernel
theorem dM_init_39 : decode cM_init 39 = .ok (.sipush 7680, 3) := by decide +kernel
theorem dM_init_42 : decode cM_init 42 = .ok (.newarray .int, 2) := by decide +kernel
theorem dM_init_44 : decode cM_init 44 = .ok (.putfield 22, 3) := by decide +kernel
theorem dM_init_47 : decode cM_init 47 = .ok (.aload_n 0, 1) := by decide +kernel
theorem dM_init_48 : decode cM_init 48 = .ok (.bipush 20, 2) := by decide +kernel
theorem dM_init_50 : decode cM_init 50 = .ok (.newarray .int, 2) := by decide +kernel
theorem dM_init_52 : decode cM_init 52 = .ok (.putfield 25, 3) := by decide +kernel
theorem dM_init_55 : decode cM_init 55 = .ok (.return_, 1) := by decide +kernel
theorem dM_thrown_0 : decode cM_thrown 0 = .ok (.aload_n 0, 1) := by decide +kernel
theorem dM_thrown_1 : decode cM_thrown 1 = .ok (.getfield 28, 3) := by decide +kernel
theorem dM_thrown_4 : decode cM_thrown 4 = .ok (.ireturn, 1) := by decide +kernel
theorem dM_throwing_0 : decode cM_throwing 0 = .ok (.aload_n 0, 1) := by decide +kernel
theorem dM_throwing_1 : decode cM_throwing 1 = .ok (.iload_n 1, 1) := by decide +kernel
theorem dM_throwing_2 : decode cM_throwing 2 = .ok (.ifCond .eq 7, 3) := by decide +kernel
theorem dM_throwing_5 : decode cM_throwing 5 = .ok (.iconst 1, 1) := by decide +kernel
theorem dM_throwing_6 : decode cM_throwing 6 = .ok (.goto 12, 3) := by decide +kernel
theorem dM_throwing_9 : decode cM_throwing 9 = .ok (.iload_n 2, 1) := by decide +kernel
theorem dM_throwing_10 : decode cM_throwing 10 = .ok (.ifCond .eq 7, 3) := by decide +kernel
theorem dM_throwing_13 : decode cM_throwing 13 = .ok (.iconst 2, 1) := by decide +kernel
theorem dM_throwing_14 : decode cM_throwing 14 = .ok (.goto 4, 3) := by decide +kernel
theorem dM_throwing_17 : decode cM_throwing 17 = .ok (.iconst 0, 1) := by decide +kernel
theorem dM_throwing_18 : decode cM_throwing 18 = .ok (.putfield 28, 3) := by decide +kernel
theorem dM_throwing_21 : decode cM_throwing 21 = .ok (.aload_n 0, 1) := by decide +kernel
theorem dM_throwing_22 : decode cM_throwing 22 = .ok (.getfield 28, 3) := by decide +kernel
theorem dM_throwing_25 : decode cM_throwing 25 = .ok (.ifCond .le 7, 3) := by decide +kernel
theorem dM_throwing_28 : decode cM_throwing 28 = .ok (.iconst 1, 1) := by decide +kernel
theorem dM_throwing_29 : decode cM_throwing 29 = .ok (.goto 4, 3) := by decide +kernel
theorem dM_throwing_32 : decode cM_throwing 32 = .ok (.iconst 0, 1) := by decide +kernel
theorem dM_throwing_33 : decode cM_throwing 33 = .ok (.ireturn, 1) := by decide +kernel
theorem dM_say_0 : decode cM_say 0 = .ok (.aload_n 0, 1) := by decide +kernel
theorem dM_say_1 : decode cM_say 1 = .ok (.iconst 0, 1) := by decide +kernel
theorem dM_say_2 : decode cM_say 2 = .ok (.putfield 28, 3) := by decide +kernel
theorem dM_say_5 : decode cM_say 5 = .ok (.iconst 0, 1) := by decide +kernel
theorem dM_say_6 : decode cM_say 6 = .ok (.istore 6, 2) := by decide +kernel
theorem dM_say_8 : decode cM_say 8 = .ok (.iload 6, 2) := by decide +kernel
theorem dM_say_10 : decode cM_say 10 = .ok (.bipush 20, 2) := by decide +kernel
theorem dM_say_12 : decode cM_say 12 = .ok (.if_icmp .ge 81, 3) := by decide +kernel
theorem dM_say_15 : decode cM_say 15 = .ok (.iload 6, 2) := by decide +kernel
theorem dM_say_17 : decode cM_say 17 = .ok (.iconst 4, 1) := by decide +kernel
theorem dM_say_18 : decode cM_say 18 = .ok (.if_icmp .ge 7, 3) := by decide +kernel
theorem dM_say_21 : decode cM_say 21 = .ok (.iload_n 1, 1) := by decide +kernel
theorem dM_say_22 : decode cM_say 22 = .ok (.goto 39, 3) := by decide +kernel
theorem dM_say_25 : decode cM_say 25 = .ok (.iload 6, 2) := by decide +kernel
theorem dM_say_27 : decode cM_say 27 = .ok (.bipush 8, 2) := by decide +kernel
theorem dM_say_29 : decode cM_say 29 = .ok (.if_icmp .ge 7, 3) := by decide +kernel
theorem dM_say_32 : decode cM_say 32 = .ok (.iload_n 2, 1) := by decide +kernel
theorem dM_say_33 : decode cM_say 33 = .ok (.goto 28, 3) := by decide +kernel
theorem dM_say_36 : decode cM_say 36 = .ok (.iload 6, 2) := by decide +kernel
theorem dM_say_38 : decode cM_say 38 = .ok (.bipush 12, 2) := by decide +kernel
theorem dM_say_40 : decode cM_say 40 = .ok (.if_icmp .ge 7, 3) := by decide +kernel
theorem dM_say_43 : decode cM_say 43 = .ok (.iload_n 3, 1) := by decide +kernel
theorem dM_say_44 : decode cM_say 44 = .ok (.goto 17, 3) := by decide +kernel
theorem dM_say_47 : decode cM_say 47 = .ok (.iload 6, 2) := by decide +kernel
theorem dM_say_49 : decode cM_say 49 = .ok (.bipush 16, 2) := by decide +kernel
theorem dM_say_51 : decode cM_say 51 = .ok (.if_icmp .ge 8, 3) := by decide +kernel
theorem dM_say_54 : decode cM_say 54 = .ok (.iload 4, 2) := by decide +kernel
theorem dM_say_56 : decode cM_say 56 = .ok (.goto 5, 3) := by decide +kernel
theorem dM_say_59 : decode cM_say 59 = .ok (.iload 5, 2) := by decide +kernel
theorem dM_say_61 : decode cM_say 61 = .ok (.istore 7, 2) := by decide +kernel
theorem dM_say_63 : decode cM_say 63 = .ok (.aload_n 0, 1) := by decide +kernel
theorem dM_say_64 : decode cM_say 64 = .ok (.getfield 7, 3) := by decide +kernel
theorem dM_say_67 : decode cM_say 67 = .ok (.iload 6, 2) := by decide +kernel
theorem dM_say_69 : decode cM_say 69 = .ok (.iload 7, 2) := by decide +kernel
theorem dM_say_71 : decode cM_say 71 = .ok (.bipush 24, 2) := by decide +kernel
theorem dM_say_73 : decode cM_say 73 = .ok (.bipush 8, 2) := by decide +kernel
theorem dM_say_75 : decode cM_say 75 = .ok (.iload 6, 2) := by decide +kernel
theorem dM_say_77 : decode cM_say 77 = .ok (.iconst 4, 1) := by decide +kernel
theorem dM_say_78 : decode cM_say 78 = .ok (.irem, 1) := by decide +kernel
theorem dM_say_79 : decode cM_say 79 = .ok (.imul, 1) := by decide +kernel
theorem dM_say_80 : decode cM_say 80 = .ok (.isub, 1) := by decide +kernel
theorem dM_say_81 : decode cM_say 81 = .ok (.ishr, 1) := by decide +kernel
theorem dM_say_82 : decode cM_say 82 = .ok (.sipush 255, 3) := by decide +kernel
theorem dM_say_85 : decode cM_say 85 = .ok (.iand, 1) := by decide +kernel
theorem dM_say_86 : decode cM_say 86 = .ok (.iastore, 1) := by decide +kernel
theorem dM_say_87 : decode cM_say 87 = .ok (.iinc 6 1, 3) := by decide +kernel
theorem dM_say_90 : decode cM_say 90 = .ok (.goto (-82), 3) := by decide +kernel
theorem dM_say_93 : decode cM_say 93 = .ok (.return_, 1) := by decide +kernel
theorem dM_isDirectory_0 : decode cM_isDirectory 0 = .ok (.iload_n 0, 1) := by decide +kernel
theorem dM_isDirectory_1 : decode cM_isDirectory 1 = .ok (.ifCond .lt 13, 3) := by decide +kernel
theorem dM_isDirectory_4 : decode cM_isDirectory 4 = .ok (.iload_n 0, 1) := by decide +kernel
theorem dM_isDirectory_5 : decode cM_isDirectory 5 = .ok (.bipush 8, 2) := by decide +kernel
theorem dM_isDirectory_7 : decode cM_isDirectory 7 = .ok (.if_icmp .ge 7, 3) := by decide +kernel
theorem dM_isDirectory_10 : decode cM_isDirectory 10 = .ok (.iconst 1, 1) := by decide +kernel
theorem dM_isDirectory_11 : decode cM_isDirectory 11 = .ok (.goto 4, 3) := by decide +kernel
theorem dM_isDirectory_14 : decode cM_isDirectory 14 = .ok (.iconst 0, 1) := by decide +kernel
theorem dM_isDirectory_15 : decode cM_isDirectory 15 = .ok (.ireturn, 1) := by decide +kernel
theorem dM_isName_0 : decode cM_isName 0 = .ok (.iload_n 1, 1) := by decide +kernel
theorem dM_isName_1 : decode cM_isName 1 = .ok (.ifCond .le 13, 3) := by decide +kernel
theorem dM_isName_4 : decode cM_isName 4 = .ok (.iload_n 1, 1) := by decide +kernel
theorem dM_isName_5 : decode cM_isName 5 = .ok (.bipush 21, 2) := by decide +kernel
theorem dM_isName_7 : decode cM_isName 7 = .ok (.if_icmp .ge 7, 3) := by decide +kernel
theorem dM_isName_10 : decode cM_isName 10 = .ok (.iconst 1, 1) := by decide +kernel
theorem dM_isName_11 : decode cM_isName 11 = .ok (.goto 4, 3) := by decide +kernel
theorem dM_isName_14 : decode cM_isName 14 = .ok (.iconst 0, 1) := by decide +kernel
theorem dM_isName_15 : decode cM_isName 15 = .ok (.istore_n 2, 1) := by decide +kernel
theorem dM_isName_16 : decode cM_isName 16 = .ok (.iconst 0, 1) := by decide +kernel
theorem dM_isName_17 : decode cM_isName 17 = .ok (.istore_n 3, 1) := by decide +kernel
theorem dM_isName_18 : decode cM_isName 18 = .ok (.iload_n 3, 1) := by decide +kernel
theorem dM_isName_19 : decode cM_isName 19 = .ok (.iload_n 1, 1) := by decide +kernel
theorem dM_isName_20 : decode cM_isName 20 = .ok (.if_icmp .ge 39, 3) := by decide +kernel
theorem dM_isName_23 : decode cM_isName 23 = .ok (.iload_n 2, 1) := by decide +kernel
theorem dM_isName_24 : decode cM_isName 24 = .ok (.ifCond .eq 35, 3) := by decide +kernel
theorem dM_isName_27 : decode cM_isName 27 = .ok (.aload_n 0, 1) := by decide +kernel
theorem dM_isName_28 : decode cM_isName 28 = .ok (.getfield 7, 3) := by decide +kernel
theorem dM_isName_31 : decode cM_isName 31 = .ok (.iload_n 3, 1) := by decide +kernel
theorem dM_isName_32 : decode cM_isName 32 = .ok (.iaload, 1) := by decide +kernel
theorem dM_isName_33 : decode cM_isName 33 = .ok (.ifCond .eq 18, 3) := by decide +kernel
theorem dM_isName_36 : decode cM_isName 36 = .ok (.aload_n 0, 1) := by decide +kernel
theorem dM_isName_37 : decode cM_isName 37 = .ok (.getfield 7, 3) := by decide +kernel
theorem dM_isName_40 : decode cM_isName 40 = .ok (.iload_n 3, 1) := by decide +kernel
theorem dM_isName_41 : decode cM_isName 41 = .ok (.iaload, 1) := by decide +kernel
theorem dM_isName_42 : decode cM_isName 42 = .ok (.bipush 47, 2) := by decide +kernel
theorem dM_isName_44 : decode cM_isName 44 = .ok (.if_icmp .eq 7, 3) := by decide +kernel
theorem dM_isName_47 : decode cM_isName 47 = .ok (.iconst 1, 1) := by decide +kernel
theorem dM_isName_48 : decode cM_isName 48 = .ok (.goto 4, 3) := by decide +kernel
theorem dM_isName_51 : decode cM_isName 51 = .ok (.iconst 0, 1) := by decide +kernel
theorem dM_isName_52 : decode cM_isName 52 = .ok (.istore_n 2, 1) := by decide +kernel
theorem dM_isName_53 : decode cM_isName 53 = .ok (.iinc 3 1, 3) := by decide +kernel
theorem dM_isName_56 : decode cM_isName 56 = .ok (.goto (-38), 3) := by decide +kernel
theorem dM_isName_59 : decode cM_isName 59 = .ok (.iload_n 2, 1) := by decide +kernel
theorem dM_isName_60 : decode cM_isName 60 = .ok (.ireturn, 1) := by decide +kernel
theorem dM_compare_0 : decode cM_compare 0 = .ok (.iconst 0, 1) := by decide +kernel
theorem dM_compare_1 : decode cM_compare 1 = .ok (.istore_n 3, 1) := by decide +kernel
theorem dM_compare_2 : decode cM_compare 2 = .ok (.iload_n 3, 1) := by decide +kernel
theorem dM_compare_3 : decode cM_compare 3 = .ok (.iload_n 1, 1) := by decide +kernel
theorem dM_compare_4 : decode cM_compare 4 = .ok (.if_icmp .ge 47, 3) := by decide +kernel
theorem dM_compare_7 : decode cM_compare 7 = .ok (.iload_n 3, 1) := by decide +kernel
theorem dM_compare_8 : decode cM_compare 8 = .ok (.aload_n 0, 1) := by decide +kernel
theorem dM_compare_9 : decode cM_compare 9 = .ok (.getfield 19, 3) := by decide +kernel
theorem dM_compare_12 : decode cM_compare 12 = .ok (.iload_n 2, 1) := by decide +kernel
theorem dM_compare_13 : decode cM_compare 13 = .ok (.iaload, 1) := by decide +kernel
theorem dM_compare_14 : decode cM_compare 14 = .ok (.if_icmp .ge 37, 3) := by decide +kernel
theorem dM_compare_17 : decode cM_compare 17 = .ok (.aload_n 0, 1) := by decide +kernel
theorem dM_compare_18 : decode cM_compare 18 = .ok (.getfield 7, 3) := by decide +kernel
theorem dM_compare_21 : decode cM_compare 21 = .ok (.iload_n 3, 1) := by decide +kernel
theorem dM_compare_22 : decode cM_compare 22 = .ok (.iaload, 1) := by decide +kernel
theorem dM_compare_23 : decode cM_compare 23 = .ok (.aload_n 0, 1) := by decide +kernel
theorem dM_compare_24 : decode cM_compare 24 = .ok (.getfield 22, 3) := by decide +kernel
theorem dM_compare_27 : decode cM_compare 27 = .ok (.bipush 20, 2) := by decide +kernel
theorem dM_compare_29 : decode cM_compare 29 = .ok (.iload_n 2, 1) := by decide +kernel
theorem dM_compare_30 : decode cM_compare 30 = .ok (.imul, 1) := by decide +kernel
theorem dM_compare_31 : decode cM_compare 31 = .ok (.iload_n 3, 1) := by decide +kernel
theorem dM_compare_32 : decode cM_compare 32 = .ok (.iadd, 1) := by decide +kernel
theorem dM_compare_33 : decode cM_compare 33 = .ok (.iaload, 1) := by decide +kernel
theorem dM_compare_34 : decode cM_compare 34 = .ok (.isub, 1) := by decide +kernel
theorem dM_compare_35 : decode cM_compare 35 = .ok (.istore 4, 2) := by decide +kernel
theorem dM_compare_37 : decode cM_compare 37 = .ok (.iload 4, 2) := by decide +kernel
theorem dM_compare_39 : decode cM_compare 39 = .ok (.ifCond .eq 6, 3) := by decide +kernel
theorem dM_compare_42 : decode cM_compare 42 = .ok (.iload 4, 2) := by decide +kernel
theorem dM_compare_44 : decode cM_compare 44 = .ok (.ireturn, 1) := by decide +kernel
theorem dM_compare_45 : decode cM_compare 45 = .ok (.iinc 3 1, 3) := by decide +kernel
theorem dM_compare_48 : decode cM_compare 48 = .ok (.goto (-46), 3) := by decide +kernel
theorem dM_compare_51 : decode cM_compare 51 = .ok (.iload_n 1, 1) := by decide +kernel
theorem dM_compare_52 : decode cM_compare 52 = .ok (.aload_n 0, 1) := by decide +kernel
theorem dM_compare_53 : decode cM_compare 53 = .ok (.getfield 19, 3) := by decide +kernel
theorem dM_compare_56 : decode cM_compare 56 = .ok (.iload_n 2, 1) := by decide +kernel
theorem dM_compare_57 : decode cM_compare 57 = .ok (.iaload, 1) := by decide +kernel
theorem dM_compare_58 : decode cM_compare 58 = .ok (.isub, 1) := by decide +kernel
theorem dM_compare_59 : decode cM_compare 59 = .ok (.ireturn, 1) := by decide +kernel
theorem dM_place_0 : decode cM_place 0 = .ok (.iconst 0, 1) := by decide +kernel
theorem dM_place_1 : decode cM_place 1 = .ok (.istore_n 3, 1) := by decide +kernel
theorem dM_place_2 : decode cM_place 2 = .ok (.iload_n 3, 1) := by decide +kernel
theorem dM_place_3 : decode cM_place 3 = .ok (.aload_n 0, 1) := by decide +kernel
theorem dM_place_4 : decode cM_place 4 = .ok (.getfield 13, 3) := by decide +kernel
theorem dM_place_7 : decode cM_place 7 = .ok (.iload_n 1, 1) := by decide +kernel
theorem dM_place_8 : decode cM_place 8 = .ok (.iaload, 1) := by decide +kernel
theorem dM_place_9 : decode cM_place 9 = .ok (.if_icmp .ge 23, 3) := by decide +kernel
theorem dM_place_12 : decode cM_place 12 = .ok (.aload_n 0, 1) := by decide +kernel
theorem dM_place_13 : decode cM_place 13 = .ok (.iload_n 2, 1) := by decide +kernel
theorem dM_place_14 : decode cM_place 14 = .ok (.bipush 48, 2) := by decide +kernel
theorem dM_place_16 : decode cM_place 16 = .ok (.iload_n 1, 1) := by decide +kernel
theorem dM_place_17 : decode cM_place 17 = .ok (.imul, 1) := by decide +kernel
theorem dM_place_18 : decode cM_place 18 = .ok (.iload_n 3, 1) := by decide +kernel
theorem dM_place_19 : decode cM_place 19 = .ok (.iadd, 1) := by decide +kernel
theorem dM_place_20 : decode cM_place 20 = .ok (.invokevirtual 32, 3) := by decide +kernel
theorem dM_place_23 : decode cM_place 23 = .ok (.ifCond .le 9, 3) := by decide +kernel
theorem dM_place_26 : decode cM_place 26 = .ok (.iinc 3 1, 3) := by decide +kernel
theorem dM_place_29 : decode cM_place 29 = .ok (.goto (-27), 3) := by decide +kernel
theorem dM_place_32 : decode cM_place 32 = .ok (.bipush 48, 2) := by decide +kernel
theorem dM_place_34 : decode cM_place 34 = .ok (.iload_n 1, 1) := by decide +kernel
theorem dM_place_35 : decode cM_place 35 = .ok (.imul, 1) := by decide +kernel
theorem dM_place_36 : decode cM_place 36 = .ok (.iload_n 3, 1) := by decide +kernel
theorem dM_place_37 : decode cM_place 37 = .ok (.iadd, 1) := by decide +kernel
theorem dM_place_38 : decode cM_place 38 = .ok (.ireturn, 1) := by decide +kernel
theorem dM_isAt_0 : decode cM_isAt 0 = .ok (.iload_n 1, 1) := by decide +kernel
theorem dM_isAt_1 : decode cM_isAt 1 = .ok (.bipush 48, 2) := by decide +kernel
theorem dM_isAt_3 : decode cM_isAt 3 = .ok (.iload_n 2, 1) := by decide +kernel
theorem dM_isAt_4 : decode cM_isAt 4 = .ok (.imul, 1) := by decide +kernel
theorem dM_isAt_5 : decode cM_isAt 5 = .ok (.aload_n 0, 1) := by decide +kernel
theorem dM_isAt_6 : decode cM_isAt 6 = .ok (.getfield 13, 3) := by decide +kernel
theorem dM_isAt_9 : decode cM_isAt 9 = .ok (.iload_n 2, 1) := by decide +kernel
theorem dM_isAt_10 : decode cM_isAt 10 = .ok (.iaload, 1) := by decide +kernel
theorem dM_isAt_11 : decode cM_isAt 11 = .ok (.iadd, 1) := by decide +kernel
theorem dM_isAt_12 : decode cM_isAt 12 = .ok (.if_icmp .ge 16, 3) := by decide +kernel
theorem dM_isAt_15 : decode cM_isAt 15 = .ok (.aload_n 0, 1) := by decide +kernel
theorem dM_isAt_16 : decode cM_isAt 16 = .ok (.iload_n 3, 1) := by decide +kernel
theorem dM_isAt_17 : decode cM_isAt 17 = .ok (.iload_n 1, 1) := by decide +kernel
theorem dM_isAt_18 : decode cM_isAt 18 = .ok (.invokevirtual 32, 3) := by decide +kernel
theorem dM_isAt_21 : decode cM_isAt 21 = .ok (.ifCond .ne 7, 3) := by decide +kernel
theorem dM_isAt_24 : decode cM_isAt 24 = .ok (.iconst 1, 1) := by decide +kernel
theorem dM_isAt_25 : decode cM_isAt 25 = .ok (.goto 4, 3) := by decide +kernel
theorem dM_isAt_28 : decode cM_isAt 28 = .ok (.iconst 0, 1) := by decide +kernel
theorem dM_isAt_29 : decode cM_isAt 29 = .ok (.ireturn, 1) := by decide +kernel
theorem dM_move_0 : decode cM_move 0 = .ok (.aload_n 0, 1) := by decide +kernel
theorem dM_move_1 : decode cM_move 1 = .ok (.getfield 16, 3) := by decide +kernel
theorem dM_move_4 : decode cM_move 4 = .ok (.iload_n 2, 1) := by decide +kernel
theorem dM_move_5 : decode cM_move 5 = .ok (.aload_n 0, 1) := by decide +kernel
theorem dM_move_6 : decode cM_move 6 = .ok (.getfield 16, 3) := by decide +kernel
theorem dM_move_9 : decode cM_move 9 = .ok (.iload_n 1, 1) := by decide +kernel
theorem dM_move_10 : decode cM_move 10 = .ok (.iaload, 1) := by decide +kernel
theorem dM_move_11 : decode cM_move 11 = .ok (.iastore, 1) := by decide +kernel
theorem dM_move_12 : decode cM_move 12 = .ok (.aload_n 0, 1) := by decide +kernel
theorem dM_move_13 : decode cM_move 13 = .ok (.getfield 19, 3) := by decide +kernel
theorem dM_move_16 : decode cM_move 16 = .ok (.iload_n 2, 1) := by decide +kernel
theorem dM_move_17 : decode cM_move 17 = .ok (.aload_n 0, 1) := by decide +kernel
theorem dM_move_18 : decode cM_move 18 = .ok (.getfield 19, 3) := by decide +kernel
theorem dM_move_21 : decode cM_move 21 = .ok (.iload_n 1, 1) := by decide +kernel
theorem dM_move_22 : decode cM_move 22 = .ok (.iaload, 1) := by decide +kernel
theorem dM_move_23 : decode cM_move 23 = .ok (.iastore, 1) := by decide +kernel
theorem dM_move_24 : decode cM_move 24 = .ok (.iconst 0, 1) := by decide +kernel
theorem dM_move_25 : decode cM_move 25 = .ok (.istore_n 3, 1) := by decide +kernel
theorem dM_move_26 : decode cM_move 26 = .ok (.iload_n 3, 1) := by decide +kernel
theorem dM_move_27 : decode cM_move 27 = .ok (.bipush 20, 2) := by decide +kernel
theorem dM_move_29 : decode cM_move 29 = .ok (.if_icmp .ge 31, 3) := by decide +kernel
theorem dM_move_32 : decode cM_move 32 = .ok (.aload_n 0, 1) := by decide +kernel
theorem dM_move_33 : decode cM_move 33 = .ok (.getfield 22, 3) := by decide +kernel
theorem dM_move_36 : decode cM_move 36 = .ok (.bipush 20, 2) := by decide +kernel
theorem dM_move_38 : decode cM_move 38 = .ok (.iload_n 2, 1) := by decide +kernel
theorem dM_move_39 : decode cM_move 39 = .ok (.imul, 1) := by decide +kernel
theorem dM_move_40 : decode cM_move 40 = .ok (.iload_n 3, 1) := by decide +kernel
theorem dM_move_41 : decode cM_move 41 = .ok (.iadd, 1) := by decide +kernel
theorem dM_move_42 : decode cM_move 42 = .ok (.aload_n 0, 1) := by decide +kernel
theorem dM_move_43 : decode cM_move 43 = .ok (.getfield 22, 3) := by decide +kernel
theorem dM_move_46 : decode cM_move 46 = .ok (.bipush 20, 2) := by decide +kernel
theorem dM_move_48 : decode cM_move 48 = .ok (.iload_n 1, 1) := by decide +kernel
theorem dM_move_49 : decode cM_move 49 = .ok (.imul, 1) := by decide +kernel
theorem dM_move_50 : decode cM_move 50 = .ok (.iload_n 3, 1) := by decide +kernel
theorem dM_move_51 : decode cM_move 51 = .ok (.iadd, 1) := by decide +kernel
theorem dM_move_52 : decode cM_move 52 = .ok (.iaload, 1) := by decide +kernel
theorem dM_move_53 : decode cM_move 53 = .ok (.iastore, 1) := by decide +kernel
theorem dM_move_54 : decode cM_move 54 = .ok (.iinc 3 1, 3) := by decide +kernel
theorem dM_move_57 : decode cM_move 57 = .ok (.goto (-31), 3) := by decide +kernel
theorem dM_move_60 : decode cM_move 60 = .ok (.return_, 1) := by decide +kernel
theorem dM_isId_0 : decode cM_isId 0 = .ok (.iload_n 0, 1) := by decide +kernel
theorem dM_isId_1 : decode cM_isId 1 = .ok (.ifCond .le 13, 3) := by decide +kernel
theorem dM_isId_4 : decode cM_isId 4 = .ok (.iload_n 0, 1) := by decide +kernel
theorem dM_isId_5 : decode cM_isId 5 = .ok (.ldc 36, 2) := by decide +kernel
theorem dM_isId_7 : decode cM_isId 7 = .ok (.if_icmp .ge 7, 3) := by decide +kernel
theorem dM_isId_10 : decode cM_isId 10 = .ok (.iconst 1, 1) := by decide +kernel
theorem dM_isId_11 : decode cM_isId 11 = .ok (.goto 4, 3) := by decide +kernel
theorem dM_isId_14 : decode cM_isId 14 = .ok (.iconst 0, 1) := by decide +kernel
theorem dM_isId_15 : decode cM_isId 15 = .ok (.ireturn, 1) := by decide +kernel
theorem dM_add_0 : decode cM_add 0 = .ok (.iload_n 1, 1) := by decide +kernel
theorem dM_add_1 : decode cM_add 1 = .ok (.invokestatic 37, 3) := by decide +kernel
theorem dM_add_4 : decode cM_add 4 = .ok (.ifCond .eq 18, 3) := by decide +kernel
theorem dM_add_7 : decode cM_add 7 = .ok (.aload_n 0, 1) := by decide +kernel
theorem dM_add_8 : decode cM_add 8 = .ok (.iload_n 2, 1) := by decide +kernel
theorem dM_add_9 : decode cM_add 9 = .ok (.invokevirtual 41, 3) := by decide +kernel
theorem dM_add_12 : decode cM_add 12 = .ok (.ifCond .eq 10, 3) := by decide +kernel
theorem dM_add_15 : decode cM_add 15 = .ok (.iload_n 3, 1) := by decide +kernel
theorem dM_add_16 : decode cM_add 16 = .ok (.invokestatic 44, 3) := by decide +kernel
theorem dM_add_19 : decode cM_add 19 = .ok (.ifCond .ne 7, 3) := by decide +kernel
theorem dM_add_22 : decode cM_add 22 = .ok (.iconst 1, 1) := by decide +kernel
theorem dM_add_23 : decode cM_add 23 = .ok (.goto 4, 3) := by decide +kernel
theorem dM_add_26 : decode cM_add 26 = .ok (.iconst 0, 1) := by decide +kernel
theorem dM_add_27 : decode cM_add 27 = .ok (.istore 4, 2) := by decide +kernel
theorem dM_add_29 : decode cM_add 29 = .ok (.iload 4, 2) := by decide +kernel
theorem dM_add_31 : decode cM_add 31 = .ok (.ifCond .eq 7, 3) := by decide +kernel
theorem dM_add_34 : decode cM_add 34 = .ok (.iconst 0, 1) := by decide +kernel
theorem dM_add_35 : decode cM_add 35 = .ok (.goto 9, 3) := by decide +kernel
theorem dM_add_38 : decode cM_add 38 = .ok (.aload_n 0, 1) := by decide +kernel
theorem dM_add_39 : decode cM_add 39 = .ok (.iload_n 1, 1) := by decide +kernel
theorem dM_add_40 : decode cM_add 40 = .ok (.iload_n 2, 1) := by decide +kernel
theorem dM_add_41 : decode cM_add 41 = .ok (.invokevirtual 47, 3) := by decide +kernel
theorem dM_add_44 : decode cM_add 44 = .ok (.istore 5, 2) := by decide +kernel
theorem dM_add_46 : decode cM_add 46 = .ok (.aload_n 0, 1) := by decide +kernel
theorem dM_add_47 : decode cM_add 47 = .ok (.iload 4, 2) := by decide +kernel
theorem dM_add_49 : decode cM_add 49 = .ok (.iload 4, 2) := by decide +kernel
theorem dM_add_51 : decode cM_add 51 = .ok (.ifCond .ne 29, 3) := by decide +kernel
theorem dM_add_54 : decode cM_add 54 = .ok (.aload_n 0, 1) := by decide +kernel
theorem dM_add_55 : decode cM_add 55 = .ok (.iload 5, 2) := by decide +kernel
theorem dM_add_57 : decode cM_add 57 = .ok (.iload_n 1, 1) := by decide +kernel
theorem dM_add_58 : decode cM_add 58 = .ok (.iload_n 2, 1) := by decide +kernel
theorem dM_add_59 : decode cM_add 59 = .ok (.invokevirtual 50, 3) := by decide +kernel
theorem dM_add_62 : decode cM_add 62 = .ok (.ifCond .ne 14, 3) := by decide +kernel
theorem dM_add_65 : decode cM_add 65 = .ok (.aload_n 0, 1) := by decide +kernel
theorem dM_add_66 : decode cM_add 66 = .ok (.getfield 13, 3) := by decide +kernel
theorem dM_add_69 : decode cM_add 69 = .ok (.iload_n 1, 1) := by decide +kernel
theorem dM_add_70 : decode cM_add 70 = .ok (.iaload, 1) := by decide +kernel
theorem dM_add_71 : decode cM_add 71 = .ok (.bipush 48, 2) := by decide +kernel
theorem dM_add_73 : decode cM_add 73 = .ok (.if_icmp .ne 7, 3) := by decide +kernel
theorem dM_add_76 : decode cM_add 76 = .ok (.iconst 1, 1) := by decide +kernel
theorem dM_add_77 : decode cM_add 77 = .ok (.goto 4, 3) := by decide +kernel
theorem dM_add_80 : decode cM_add 80 = .ok (.iconst 0, 1) := by decide +kernel
theorem dM_add_81 : decode cM_add 81 = .ok (.invokevirtual 54, 3) := by decide +kernel
theorem dM_add_84 : decode cM_add 84 = .ok (.ifCond .eq 5, 3) := by decide +kernel
theorem dM_add_87 : decode cM_add 87 = .ok (.iconst 0, 1) := by decide +kernel
theorem dM_add_88 : decode cM_add 88 = .ok (.ireturn, 1) := by decide +kernel
theorem dM_add_89 : decode cM_add 89 = .ok (.bipush 48, 2) := by decide +kernel
theorem dM_add_91 : decode cM_add 91 = .ok (.iload_n 1, 1) := by decide +kernel
theorem dM_add_92 : decode cM_add 92 = .ok (.imul, 1) := by decide +kernel
theorem dM_add_93 : decode cM_add 93 = .ok (.aload_n 0, 1) := by decide +kernel
theorem dM_add_94 : decode cM_add 94 = .ok (.getfield 13, 3) := by decide +kernel
theorem dM_add_97 : decode cM_add 97 = .ok (.iload_n 1, 1) := by decide +kernel
theorem dM_add_98 : decode cM_add 98 = .ok (.iaload, 1) := by decide +kernel
theorem dM_add_99 : decode cM_add 99 = .ok (.iadd, 1) := by decide +kernel
theorem dM_add_100 : decode cM_add 100 = .ok (.istore 6, 2) := by decide +kernel
theorem dM_add_102 : decode cM_add 102 = .ok (.iload 6, 2) := by decide +kernel
theorem dM_add_104 : decode cM_add 104 = .ok (.iload 5, 2) := by decide +kernel
theorem dM_add_106 : decode cM_add 106 = .ok (.if_icmp .le 19, 3) := by decide +kernel
theorem dM_add_109 : decode cM_add 109 = .ok (.aload_n 0, 1) := by decide +kernel
theorem dM_add_110 : decode cM_add 110 = .ok (.iload 6, 2) := by decide +kernel
theorem dM_add_112 : decode cM_add 112 = .ok (.iconst 1, 1) := by decide +kernel
theorem dM_add_113 : decode cM_add 113 = .ok (.isub, 1) := by decide +kernel
theorem dM_add_114 : decode cM_add 114 = .ok (.iload 6, 2) := by decide +kernel
theorem dM_add_116 : decode cM_add 116 = .ok (.invokevirtual 58, 3) := by decide +kernel
theorem dM_add_119 : decode cM_add 119 = .ok (.iinc 6 (-1), 3) := by decide +kernel
theorem dM_add_122 : decode cM_add 122 = .ok (.goto (-20), 3) := by decide +kernel
theorem dM_add_125 : decode cM_add 125 = .ok (.aload_n 0, 1) := by decide +kernel
theorem dM_add_126 : decode cM_add 126 = .ok (.getfield 16, 3) := by decide +kernel
theorem dM_add_129 : decode cM_add 129 = .ok (.iload 5, 2) := by decide +kernel
theorem dM_add_131 : decode cM_add 131 = .ok (.iload_n 3, 1) := by decide +kernel
theorem dM_add_132 : decode cM_add 132 = .ok (.iastore, 1) := by decide +kernel
theorem dM_add_133 : decode cM_add 133 = .ok (.aload_n 0, 1) := by decide +kernel
theorem dM_add_134 : decode cM_add 134 = .ok (.getfield 19, 3) := by decide +kernel
theorem dM_add_137 : decode cM_add 137 = .ok (.iload 5, 2) := by decide +kernel
theorem dM_add_139 : decode cM_add 139 = .ok (.iload_n 2, 1) := by decide +kernel
theorem dM_add_140 : decode cM_add 140 = .ok (.iastore, 1) := by decide +kernel
theorem dM_add_141 : decode cM_add 141 = .ok (.iconst 0, 1) := by decide +kernel
theorem dM_add_142 : decode cM_add 142 = .ok (.istore 6, 2) := by decide +kernel
theorem dM_add_144 : decode cM_add 144 = .ok (.iload 6, 2) := by decide +kernel
theorem dM_add_146 : decode cM_add 146 = .ok (.iload_n 2, 1) := by decide +kernel
theorem dM_add_147 : decode cM_add 147 = .ok (.if_icmp .ge 29, 3) := by decide +kernel
theorem dM_add_150 : decode cM_add 150 = .ok (.aload_n 0, 1) := by decide +kernel
theorem dM_add_151 : decode cM_add 151 = .ok (.getfield 22, 3) := by decide +kernel
theorem dM_add_154 : decode cM_add 154 = .ok (.bipush 20, 2) := by decide +kernel
theorem dM_add_156 : decode cM_add 156 = .ok (.iload 5, 2) := by decide +kernel
theorem dM_add_158 : decode cM_add 158 = .ok (.imul, 1) := by decide +kernel
theorem dM_add_159 : decode cM_add 159 = .ok (.iload 6, 2) := by decide +kernel
theorem dM_add_161 : decode cM_add 161 = .ok (.iadd, 1) := by decide +kernel
theorem dM_add_162 : decode cM_add 162 = .ok (.aload_n 0, 1) := by decide +kernel
theorem dM_add_163 : decode cM_add 163 = .ok (.getfield 7, 3) := by decide +kernel
theorem dM_add_166 : decode cM_add 166 = .ok (.iload 6, 2) := by decide +kernel
theorem dM_add_168 : decode cM_add 168 = .ok (.iaload, 1) := by decide +kernel
theorem dM_add_169 : decode cM_add 169 = .ok (.iastore, 1) := by decide +kernel
theorem dM_add_170 : decode cM_add 170 = .ok (.iinc 6 1, 3) := by decide +kernel
theorem dM_add_173 : decode cM_add 173 = .ok (.goto (-29), 3) := by decide +kernel
theorem dM_add_176 : decode cM_add 176 = .ok (.aload_n 0, 1) := by decide +kernel
theorem dM_add_177 : decode cM_add 177 = .ok (.getfield 13, 3) := by decide +kernel
theorem dM_add_180 : decode cM_add 180 = .ok (.iload_n 1, 1) := by decide +kernel
theorem dM_add_181 : decode cM_add 181 = .ok (.dup2, 1) := by decide +kernel
theorem dM_add_182 : decode cM_add 182 = .ok (.iaload, 1) := by decide +kernel
theorem dM_add_183 : decode cM_add 183 = .ok (.iconst 1, 1) := by decide +kernel
theorem dM_add_184 : decode cM_add 184 = .ok (.iadd, 1) := by decide +kernel
theorem dM_add_185 : decode cM_add 185 = .ok (.iastore, 1) := by decide +kernel
theorem dM_add_186 : decode cM_add 186 = .ok (.aload_n 0, 1) := by decide +kernel
theorem dM_add_187 : decode cM_add 187 = .ok (.getfield 13, 3) := by decide +kernel
theorem dM_add_190 : decode cM_add 190 = .ok (.iload_n 1, 1) := by decide +kernel
theorem dM_add_191 : decode cM_add 191 = .ok (.iaload, 1) := by decide +kernel
theorem dM_add_192 : decode cM_add 192 = .ok (.ireturn, 1) := by decide +kernel
theorem dM_find_0 : decode cM_find 0 = .ok (.aload_n 0, 1) := by decide +kernel
theorem dM_find_1 : decode cM_find 1 = .ok (.iload_n 1, 1) := by decide +kernel
theorem dM_find_2 : decode cM_find 2 = .ok (.invokestatic 37, 3) := by decide +kernel
theorem dM_find_5 : decode cM_find 5 = .ok (.ifCond .eq 11, 3) := by decide +kernel
theorem dM_find_8 : decode cM_find 8 = .ok (.aload_n 0, 1) := by decide +kernel
theorem dM_find_9 : decode cM_find 9 = .ok (.iload_n 2, 1) := by decide +kernel
theorem dM_find_10 : decode cM_find 10 = .ok (.invokevirtual 41, 3) := by decide +kernel
theorem dM_find_13 : decode cM_find 13 = .ok (.ifCond .ne 7, 3) := by decide +kernel
theorem dM_find_16 : decode cM_find 16 = .ok (.iconst 1, 1) := by decide +kernel
theorem dM_find_17 : decode cM_find 17 = .ok (.goto 4, 3) := by decide +kernel
theorem dM_find_20 : decode cM_find 20 = .ok (.iconst 0, 1) := by decide +kernel
theorem dM_find_21 : decode cM_find 21 = .ok (.iconst 0, 1) := by decide +kernel
theorem dM_find_22 : decode cM_find 22 = .ok (.invokevirtual 54, 3) := by decide +kernel
theorem dM_find_25 : decode cM_find 25 = .ok (.ifCond .eq 5, 3) := by decide +kernel
theorem dM_find_28 : decode cM_find 28 = .ok (.iconst 0, 1) := by decide +kernel
theorem dM_find_29 : decode cM_find 29 = .ok (.ireturn, 1) := by decide +kernel
theorem dM_find_30 : decode cM_find 30 = .ok (.aload_n 0, 1) := by decide +kernel
theorem dM_find_31 : decode cM_find 31 = .ok (.iload_n 1, 1) := by decide +kernel
theorem dM_find_32 : decode cM_find 32 = .ok (.iload_n 2, 1) := by decide +kernel
theorem dM_find_33 : decode cM_find 33 = .ok (.invokevirtual 47, 3) := by decide +kernel
theorem dM_find_36 : decode cM_find 36 = .ok (.istore_n 3, 1) := by decide +kernel
theorem dM_find_37 : decode cM_find 37 = .ok (.aload_n 0, 1) := by decide +kernel
theorem dM_find_38 : decode cM_find 38 = .ok (.iload_n 3, 1) := by decide +kernel
theorem dM_find_39 : decode cM_find 39 = .ok (.iload_n 1, 1) := by decide +kernel
theorem dM_find_40 : decode cM_find 40 = .ok (.iload_n 2, 1) := by decide +kernel
theorem dM_find_41 : decode cM_find 41 = .ok (.invokevirtual 50, 3) := by decide +kernel
theorem dM_find_44 : decode cM_find 44 = .ok (.ifCond .eq 12, 3) := by decide +kernel
theorem dM_find_47 : decode cM_find 47 = .ok (.aload_n 0, 1) := by decide +kernel
theorem dM_find_48 : decode cM_find 48 = .ok (.getfield 16, 3) := by decide +kernel
theorem dM_find_51 : decode cM_find 51 = .ok (.iload_n 3, 1) := by decide +kernel
theorem dM_find_52 : decode cM_find 52 = .ok (.iaload, 1) := by decide +kernel
theorem dM_find_53 : decode cM_find 53 = .ok (.goto 4, 3) := by decide +kernel
theorem dM_find_56 : decode cM_find 56 = .ok (.iconst (-1), 1) := by decide +kernel
theorem dM_find_57 : decode cM_find 57 = .ok (.ireturn, 1) := by decide +kernel
theorem dM_remove_0 : decode cM_remove 0 = .ok (.iload_n 1, 1) := by decide +kernel
theorem dM_remove_1 : decode cM_remove 1 = .ok (.invokestatic 37, 3) := by decide +kernel
theorem dM_remove_4 : decode cM_remove 4 = .ok (.ifCond .eq 11, 3) := by decide +kernel
theorem dM_remove_7 : decode cM_remove 7 = .ok (.aload_n 0, 1) := by decide +kernel
theorem dM_remove_8 : decode cM_remove 8 = .ok (.iload_n 2, 1) := by decide +kernel
theorem dM_remove_9 : decode cM_remove 9 = .ok (.invokevirtual 41, 3) := by decide +kernel
theorem dM_remove_12 : decode cM_remove 12 = .ok (.ifCond .ne 7, 3) := by decide +kernel
theorem dM_remove_15 : decode cM_remove 15 = .ok (.iconst 1, 1) := by decide +kernel
theorem dM_remove_16 : decode cM_remove 16 = .ok (.goto 4, 3) := by decide +kernel
theorem dM_remove_19 : decode cM_remove 19 = .ok (.iconst 0, 1) := by decide +kernel
theorem dM_remove_20 : decode cM_remove 20 = .ok (.istore_n 3, 1) := by decide +kernel
theorem dM_remove_21 : decode cM_remove 21 = .ok (.iload_n 3, 1) := by decide +kernel
theorem dM_remove_22 : decode cM_remove 22 = .ok (.ifCond .eq 7, 3) := by decide +kernel
theorem dM_remove_25 : decode cM_remove 25 = .ok (.iconst 0, 1) := by decide +kernel
theorem dM_remove_26 : decode cM_remove 26 = .ok (.goto 9, 3) := by decide +kernel
theorem dM_remove_29 : decode cM_remove 29 = .ok (.aload_n 0, 1) := by decide +kernel
theorem dM_remove_30 : decode cM_remove 30 = .ok (.iload_n 1, 1) := by decide +kernel
theorem dM_remove_31 : decode cM_remove 31 = .ok (.iload_n 2, 1) := by decide +kernel
theorem dM_remove_32 : decode cM_remove 32 = .ok (.invokevirtual 47, 3) := by decide +kernel
theorem dM_remove_35 : decode cM_remove 35 = .ok (.istore 4, 2) := by decide +kernel
theorem dM_remove_37 : decode cM_remove 37 = .ok (.aload_n 0, 1) := by decide +kernel
theorem dM_remove_38 : decode cM_remove 38 = .ok (.iload_n 3, 1) := by decide +kernel
theorem dM_remove_39 : decode cM_remove 39 = .ok (.iload_n 3, 1) := by decide +kernel
theorem dM_remove_40 : decode cM_remove 40 = .ok (.ifCond .ne 18, 3) := by decide +kernel
theorem dM_remove_43 : decode cM_remove 43 = .ok (.aload_n 0, 1) := by decide +kernel
theorem dM_remove_44 : decode cM_remove 44 = .ok (.iload 4, 2) := by decide +kernel
theorem dM_remove_46 : decode cM_remove 46 = .ok (.iload_n 1, 1) := by decide +kernel
theorem dM_remove_47 : decode cM_remove 47 = .ok (.iload_n 2, 1) := by decide +kernel
theorem dM_remove_48 : decode cM_remove 48 = .ok (.invokevirtual 50, 3) := by decide +kernel
theorem dM_remove_51 : decode cM_remove 51 = .ok (.ifCond .ne 7, 3) := by decide +kernel
theorem dM_remove_54 : decode cM_remove 54 = .ok (.iconst 1, 1) := by decide +kernel
theorem dM_remove_55 : decode cM_remove 55 = .ok (.goto 4, 3) := by decide +kernel
theorem dM_remove_58 : decode cM_remove 58 = .ok (.iconst 0, 1) := by decide +kernel
theorem dM_remove_59 : decode cM_remove 59 = .ok (.invokevirtual 54, 3) := by decide +kernel
theorem dM_remove_62 : decode cM_remove 62 = .ok (.ifCond .eq 5, 3) := by decide +kernel
theorem dM_remove_65 : decode cM_remove 65 = .ok (.iconst 0, 1) := by decide +kernel
theorem dM_remove_66 : decode cM_remove 66 = .ok (.ireturn, 1) := by decide +kernel
theorem dM_remove_67 : decode cM_remove 67 = .ok (.aload_n 0, 1) := by decide +kernel
theorem dM_remove_68 : decode cM_remove 68 = .ok (.getfield 16, 3) := by decide +kernel
theorem dM_remove_71 : decode cM_remove 71 = .ok (.iload 4, 2) := by decide +kernel
theorem dM_remove_73 : decode cM_remove 73 = .ok (.iaload, 1) := by decide +kernel
theorem dM_remove_74 : decode cM_remove 74 = .ok (.istore 5, 2) := by decide +kernel
theorem dM_remove_76 : decode cM_remove 76 = .ok (.aload_n 0, 1) := by decide +kernel
theorem dM_remove_77 : decode cM_remove 77 = .ok (.getfield 13, 3) := by decide +kernel
theorem dM_remove_80 : decode cM_remove 80 = .ok (.iload_n 1, 1) := by decide +kernel
theorem dM_remove_81 : decode cM_remove 81 = .ok (.dup2, 1) := by decide +kernel
theorem dM_remove_82 : decode cM_remove 82 = .ok (.iaload, 1) := by decide +kernel
theorem dM_remove_83 : decode cM_remove 83 = .ok (.iconst 1, 1) := by decide +kernel
theorem dM_remove_84 : decode cM_remove 84 = .ok (.isub, 1) := by decide +kernel
theorem dM_remove_85 : decode cM_remove 85 = .ok (.iastore, 1) := by decide +kernel
theorem dM_remove_86 : decode cM_remove 86 = .ok (.iload 4, 2) := by decide +kernel
theorem dM_remove_88 : decode cM_remove 88 = .ok (.istore 6, 2) := by decide +kernel
theorem dM_remove_90 : decode cM_remove 90 = .ok (.iload 6, 2) := by decide +kernel
theorem dM_remove_92 : decode cM_remove 92 = .ok (.bipush 48, 2) := by decide +kernel
theorem dM_remove_94 : decode cM_remove 94 = .ok (.iload_n 1, 1) := by decide +kernel
theorem dM_remove_95 : decode cM_remove 95 = .ok (.imul, 1) := by decide +kernel
theorem dM_remove_96 : decode cM_remove 96 = .ok (.aload_n 0, 1) := by decide +kernel
theorem dM_remove_97 : decode cM_remove 97 = .ok (.getfield 13, 3) := by decide +kernel
theorem dM_remove_100 : decode cM_remove 100 = .ok (.iload_n 1, 1) := by decide +kernel
theorem dM_remove_101 : decode cM_remove 101 = .ok (.iaload, 1) := by decide +kernel
theorem dM_remove_102 : decode cM_remove 102 = .ok (.iadd, 1) := by decide +kernel
theorem dM_remove_103 : decode cM_remove 103 = .ok (.if_icmp .ge 19, 3) := by decide +kernel
theorem dM_remove_106 : decode cM_remove 106 = .ok (.aload_n 0, 1) := by decide +kernel
theorem dM_remove_107 : decode cM_remove 107 = .ok (.iload 6, 2) := by decide +kernel
theorem dM_remove_109 : decode cM_remove 109 = .ok (.iconst 1, 1) := by decide +kernel
theorem dM_remove_110 : decode cM_remove 110 = .ok (.iadd, 1) := by decide +kernel
theorem dM_remove_111 : decode cM_remove 111 = .ok (.iload 6, 2) := by decide +kernel
theorem dM_remove_113 : decode cM_remove 113 = .ok (.invokevirtual 58, 3) := by decide +kernel
theorem dM_remove_116 : decode cM_remove 116 = .ok (.iinc 6 1, 3) := by decide +kernel
theorem dM_remove_119 : decode cM_remove 119 = .ok (.goto (-29), 3) := by decide +kernel
theorem dM_remove_122 : decode cM_remove 122 = .ok (.iload 5, 2) := by decide +kernel
theorem dM_remove_124 : decode cM_remove 124 = .ok (.ireturn, 1) := by decide +kernel
theorem dM_change_0 : decode cM_change 0 = .ok (.iload_n 1, 1) := by decide +kernel
theorem dM_change_1 : decode cM_change 1 = .ok (.invokestatic 37, 3) := by decide +kernel
theorem dM_change_4 : decode cM_change 4 = .ok (.ifCond .eq 18, 3) := by decide +kernel
theorem dM_change_7 : decode cM_change 7 = .ok (.aload_n 0, 1) := by decide +kernel
theorem dM_change_8 : decode cM_change 8 = .ok (.iload_n 2, 1) := by decide +kernel
theorem dM_change_9 : decode cM_change 9 = .ok (.invokevirtual 41, 3) := by decide +kernel
theorem dM_change_12 : decode cM_change 12 = .ok (.ifCond .eq 10, 3) := by decide +kernel
theorem dM_change_15 : decode cM_change 15 = .ok (.iload_n 3, 1) := by decide +kernel
theorem dM_change_16 : decode cM_change 16 = .ok (.invokestatic 44, 3) := by decide +kernel
theorem dM_change_19 : decode cM_change 19 = .ok (.ifCond .ne 7, 3) := by decide +kernel
theorem dM_change_22 : decode cM_change 22 = .ok (.iconst 1, 1) := by decide +kernel
theorem dM_change_23 : decode cM_change 23 = .ok (.goto 4, 3) := by decide +kernel
theorem dM_change_26 : decode cM_change 26 = .ok (.iconst 0, 1) := by decide +kernel
theorem dM_change_27 : decode cM_change 27 = .ok (.istore 4, 2) := by decide +kernel
theorem dM_change_29 : decode cM_change 29 = .ok (.iload 4, 2) := by decide +kernel
theorem dM_change_31 : decode cM_change 31 = .ok (.ifCond .eq 7, 3) := by decide +kernel
theorem dM_change_34 : decode cM_change 34 = .ok (.iconst 0, 1) := by decide +kernel
theorem dM_change_35 : decode cM_change 35 = .ok (.goto 9, 3) := by decide +kernel
theorem dM_change_38 : decode cM_change 38 = .ok (.aload_n 0, 1) := by decide +kernel
theorem dM_change_39 : decode cM_change 39 = .ok (.iload_n 1, 1) := by decide +kernel
theorem dM_change_40 : decode cM_change 40 = .ok (.iload_n 2, 1) := by decide +kernel
theorem dM_change_41 : decode cM_change 41 = .ok (.invokevirtual 47, 3) := by decide +kernel
theorem dM_change_44 : decode cM_change 44 = .ok (.istore 5, 2) := by decide +kernel
theorem dM_change_46 : decode cM_change 46 = .ok (.aload_n 0, 1) := by decide +kernel
theorem dM_change_47 : decode cM_change 47 = .ok (.iload 4, 2) := by decide +kernel
theorem dM_change_49 : decode cM_change 49 = .ok (.iload 4, 2) := by decide +kernel
theorem dM_change_51 : decode cM_change 51 = .ok (.ifCond .ne 18, 3) := by decide +kernel
theorem dM_change_54 : decode cM_change 54 = .ok (.aload_n 0, 1) := by decide +kernel
theorem dM_change_55 : decode cM_change 55 = .ok (.iload 5, 2) := by decide +kernel
theorem dM_change_57 : decode cM_change 57 = .ok (.iload_n 1, 1) := by decide +kernel
theorem dM_change_58 : decode cM_change 58 = .ok (.iload_n 2, 1) := by decide +kernel
theorem dM_change_59 : decode cM_change 59 = .ok (.invokevirtual 50, 3) := by decide +kernel
theorem dM_change_62 : decode cM_change 62 = .ok (.ifCond .ne 7, 3) := by decide +kernel
theorem dM_change_65 : decode cM_change 65 = .ok (.iconst 1, 1) := by decide +kernel
theorem dM_change_66 : decode cM_change 66 = .ok (.goto 4, 3) := by decide +kernel
theorem dM_change_69 : decode cM_change 69 = .ok (.iconst 0, 1) := by decide +kernel
theorem dM_change_70 : decode cM_change 70 = .ok (.invokevirtual 54, 3) := by decide +kernel
theorem dM_change_73 : decode cM_change 73 = .ok (.ifCond .eq 5, 3) := by decide +kernel
theorem dM_change_76 : decode cM_change 76 = .ok (.iconst 0, 1) := by decide +kernel
theorem dM_change_77 : decode cM_change 77 = .ok (.ireturn, 1) := by decide +kernel
theorem dM_change_78 : decode cM_change 78 = .ok (.aload_n 0, 1) := by decide +kernel
theorem dM_change_79 : decode cM_change 79 = .ok (.getfield 16, 3) := by decide +kernel
theorem dM_change_82 : decode cM_change 82 = .ok (.iload 5, 2) := by decide +kernel
theorem dM_change_84 : decode cM_change 84 = .ok (.iaload, 1) := by decide +kernel
theorem dM_change_85 : decode cM_change 85 = .ok (.istore 6, 2) := by decide +kernel
theorem dM_change_87 : decode cM_change 87 = .ok (.aload_n 0, 1) := by decide +kernel
theorem dM_change_88 : decode cM_change 88 = .ok (.getfield 16, 3) := by decide +kernel
theorem dM_change_91 : decode cM_change 91 = .ok (.iload 5, 2) := by decide +kernel
theorem dM_change_93 : decode cM_change 93 = .ok (.iload_n 3, 1) := by decide +kernel
theorem dM_change_94 : decode cM_change 94 = .ok (.iastore, 1) := by decide +kernel
theorem dM_change_95 : decode cM_change 95 = .ok (.iload 6, 2) := by decide +kernel
theorem dM_change_97 : decode cM_change 97 = .ok (.ireturn, 1) := by decide +kernel
theorem dM_size_0 : decode cM_size 0 = .ok (.aload_n 0, 1) := by decide +kernel
theorem dM_size_1 : decode cM_size 1 = .ok (.iload_n 1, 1) := by decide +kernel
theorem dM_size_2 : decode cM_size 2 = .ok (.invokestatic 37, 3) := by decide +kernel
theorem dM_size_5 : decode cM_size 5 = .ok (.ifCond .ne 7, 3) := by decide +kernel
theorem dM_size_8 : decode cM_size 8 = .ok (.iconst 1, 1) := by decide +kernel
theorem dM_size_9 : decode cM_size 9 = .ok (.goto 4, 3) := by decide +kernel
theorem dM_size_12 : decode cM_size 12 = .ok (.iconst 0, 1) := by decide +kernel
theorem dM_size_13 : decode cM_size 13 = .ok (.iconst 0, 1) := by decide +kernel
theorem dM_size_14 : decode cM_size 14 = .ok (.invokevirtual 54, 3) := by decide +kernel
theorem dM_size_17 : decode cM_size 17 = .ok (.ifCond .eq 5, 3) := by decide +kernel
theorem dM_size_20 : decode cM_size 20 = .ok (.iconst 0, 1) := by decide +kernel
theorem dM_size_21 : decode cM_size 21 = .ok (.ireturn, 1) := by decide +kernel
theorem dM_size_22 : decode cM_size 22 = .ok (.aload_n 0, 1) := by decide +kernel
theorem dM_size_23 : decode cM_size 23 = .ok (.getfield 13, 3) := by decide +kernel
theorem dM_size_26 : decode cM_size 26 = .ok (.iload_n 1, 1) := by decide +kernel
theorem dM_size_27 : decode cM_size 27 = .ok (.iaload, 1) := by decide +kernel
theorem dM_size_28 : decode cM_size 28 = .ok (.ireturn, 1) := by decide +kernel
theorem dM_nth_0 : decode cM_nth 0 = .ok (.aload_n 0, 1) := by decide +kernel
theorem dM_nth_1 : decode cM_nth 1 = .ok (.iload_n 1, 1) := by decide +kernel
theorem dM_nth_2 : decode cM_nth 2 = .ok (.invokestatic 37, 3) := by decide +kernel
theorem dM_nth_5 : decode cM_nth 5 = .ok (.ifCond .eq 7, 3) := by decide +kernel
theorem dM_nth_8 : decode cM_nth 8 = .ok (.iload_n 2, 1) := by decide +kernel
theorem dM_nth_9 : decode cM_nth 9 = .ok (.ifCond .ge 7, 3) := by decide +kernel
theorem dM_nth_12 : decode cM_nth 12 = .ok (.iconst 1, 1) := by decide +kernel
theorem dM_nth_13 : decode cM_nth 13 = .ok (.goto 4, 3) := by decide +kernel
theorem dM_nth_16 : decode cM_nth 16 = .ok (.iconst 0, 1) := by decide +kernel
theorem dM_nth_17 : decode cM_nth 17 = .ok (.iconst 0, 1) := by decide +kernel
theorem dM_nth_18 : decode cM_nth 18 = .ok (.invokevirtual 54, 3) := by decide +kernel
theorem dM_nth_21 : decode cM_nth 21 = .ok (.ifCond .eq 5, 3) := by decide +kernel
theorem dM_nth_24 : decode cM_nth 24 = .ok (.iconst 0, 1) := by decide +kernel
theorem dM_nth_25 : decode cM_nth 25 = .ok (.ireturn, 1) := by decide +kernel
theorem dM_nth_26 : decode cM_nth 26 = .ok (.aload_n 0, 1) := by decide +kernel
theorem dM_nth_27 : decode cM_nth 27 = .ok (.iload_n 2, 1) := by decide +kernel
theorem dM_nth_28 : decode cM_nth 28 = .ok (.aload_n 0, 1) := by decide +kernel
theorem dM_nth_29 : decode cM_nth 29 = .ok (.getfield 13, 3) := by decide +kernel
theorem dM_nth_32 : decode cM_nth 32 = .ok (.iload_n 1, 1) := by decide +kernel
theorem dM_nth_33 : decode cM_nth 33 = .ok (.iaload, 1) := by decide +kernel
theorem dM_nth_34 : decode cM_nth 34 = .ok (.if_icmp .ge 17, 3) := by decide +kernel
theorem dM_nth_37 : decode cM_nth 37 = .ok (.aload_n 0, 1) := by decide +kernel
theorem dM_nth_38 : decode cM_nth 38 = .ok (.getfield 19, 3) := by decide +kernel
theorem dM_nth_41 : decode cM_nth 41 = .ok (.bipush 48, 2) := by decide +kernel
theorem dM_nth_43 : decode cM_nth 43 = .ok (.iload_n 1, 1) := by decide +kernel
theorem dM_nth_44 : decode cM_nth 44 = .ok (.imul, 1) := by decide +kernel
theorem dM_nth_45 : decode cM_nth 45 = .ok (.iload_n 2, 1) := by decide +kernel
theorem dM_nth_46 : decode cM_nth 46 = .ok (.iadd, 1) := by decide +kernel
theorem dM_nth_47 : decode cM_nth 47 = .ok (.iaload, 1) := by decide +kernel
theorem dM_nth_48 : decode cM_nth 48 = .ok (.goto 4, 3) := by decide +kernel
theorem dM_nth_51 : decode cM_nth 51 = .ok (.iconst 0, 1) := by decide +kernel
theorem dM_nth_52 : decode cM_nth 52 = .ok (.putfield 62, 3) := by decide +kernel
theorem dM_nth_55 : decode cM_nth 55 = .ok (.iconst 0, 1) := by decide +kernel
theorem dM_nth_56 : decode cM_nth 56 = .ok (.istore_n 3, 1) := by decide +kernel
theorem dM_nth_57 : decode cM_nth 57 = .ok (.iload_n 3, 1) := by decide +kernel
theorem dM_nth_58 : decode cM_nth 58 = .ok (.aload_n 0, 1) := by decide +kernel
theorem dM_nth_59 : decode cM_nth 59 = .ok (.getfield 62, 3) := by decide +kernel
theorem dM_nth_62 : decode cM_nth 62 = .ok (.if_icmp .ge 31, 3) := by decide +kernel
theorem dM_nth_65 : decode cM_nth 65 = .ok (.aload_n 0, 1) := by decide +kernel
theorem dM_nth_66 : decode cM_nth 66 = .ok (.getfield 25, 3) := by decide +kernel
theorem dM_nth_69 : decode cM_nth 69 = .ok (.iload_n 3, 1) := by decide +kernel
theorem dM_nth_70 : decode cM_nth 70 = .ok (.aload_n 0, 1) := by decide +kernel
theorem dM_nth_71 : decode cM_nth 71 = .ok (.getfield 22, 3) := by decide +kernel
theorem dM_nth_74 : decode cM_nth 74 = .ok (.bipush 20, 2) := by decide +kernel
theorem dM_nth_76 : decode cM_nth 76 = .ok (.bipush 48, 2) := by decide +kernel
theorem dM_nth_78 : decode cM_nth 78 = .ok (.iload_n 1, 1) := by decide +kernel
theorem dM_nth_79 : decode cM_nth 79 = .ok (.imul, 1) := by decide +kernel
theorem dM_nth_80 : decode cM_nth 80 = .ok (.iload_n 2, 1) := by decide +kernel
theorem dM_nth_81 : decode cM_nth 81 = .ok (.iadd, 1) := by decide +kernel
theorem dM_nth_82 : decode cM_nth 82 = .ok (.imul, 1) := by decide +kernel
theorem dM_nth_83 : decode cM_nth 83 = .ok (.iload_n 3, 1) := by decide +kernel
theorem dM_nth_84 : decode cM_nth 84 = .ok (.iadd, 1) := by decide +kernel
theorem dM_nth_85 : decode cM_nth 85 = .ok (.iaload, 1) := by decide +kernel
theorem dM_nth_86 : decode cM_nth 86 = .ok (.iastore, 1) := by decide +kernel
theorem dM_nth_87 : decode cM_nth 87 = .ok (.iinc 3 1, 3) := by decide +kernel
theorem dM_nth_90 : decode cM_nth 90 = .ok (.goto (-33), 3) := by decide +kernel
theorem dM_nth_93 : decode cM_nth 93 = .ok (.aload_n 0, 1) := by decide +kernel
theorem dM_nth_94 : decode cM_nth 94 = .ok (.getfield 62, 3) := by decide +kernel
theorem dM_nth_97 : decode cM_nth 97 = .ok (.ifCond .ne 7, 3) := by decide +kernel
theorem dM_nth_100 : decode cM_nth 100 = .ok (.iconst (-1), 1) := by decide +kernel
theorem dM_nth_101 : decode cM_nth 101 = .ok (.goto 7, 3) := by decide +kernel
theorem dM_nth_104 : decode cM_nth 104 = .ok (.aload_n 0, 1) := by decide +kernel
theorem dM_nth_105 : decode cM_nth 105 = .ok (.getfield 62, 3) := by decide +kernel
theorem dM_nth_108 : decode cM_nth 108 = .ok (.ireturn, 1) := by decide +kernel
theorem dM_byteAt_0 : decode cM_byteAt 0 = .ok (.aload_n 0, 1) := by decide +kernel
theorem dM_byteAt_1 : decode cM_byteAt 1 = .ok (.iload_n 1, 1) := by decide +kernel
theorem dM_byteAt_2 : decode cM_byteAt 2 = .ok (.ifCond .ge 7, 3) := by decide +kernel
theorem dM_byteAt_5 : decode cM_byteAt 5 = .ok (.iconst 1, 1) := by decide +kernel
theorem dM_byteAt_6 : decode cM_byteAt 6 = .ok (.goto 4, 3) := by decide +kernel
theorem dM_byteAt_9 : decode cM_byteAt 9 = .ok (.iconst 0, 1) := by decide +kernel
theorem dM_byteAt_10 : decode cM_byteAt 10 = .ok (.iconst 0, 1) := by decide +kernel
theorem dM_byteAt_11 : decode cM_byteAt 11 = .ok (.invokevirtual 54, 3) := by decide +kernel
theorem dM_byteAt_14 : decode cM_byteAt 14 = .ok (.ifCond .eq 5, 3) := by decide +kernel
theorem dM_byteAt_17 : decode cM_byteAt 17 = .ok (.iconst 0, 1) := by decide +kernel
theorem dM_byteAt_18 : decode cM_byteAt 18 = .ok (.ireturn, 1) := by decide +kernel
theorem dM_byteAt_19 : decode cM_byteAt 19 = .ok (.iload_n 1, 1) := by decide +kernel
theorem dM_byteAt_20 : decode cM_byteAt 20 = .ok (.aload_n 0, 1) := by decide +kernel
theorem dM_byteAt_21 : decode cM_byteAt 21 = .ok (.getfield 62, 3) := by decide +kernel
theorem dM_byteAt_24 : decode cM_byteAt 24 = .ok (.if_icmp .ge 12, 3) := by decide +kernel
theorem dM_byteAt_27 : decode cM_byteAt 27 = .ok (.aload_n 0, 1) := by decide +kernel
theorem dM_byteAt_28 : decode cM_byteAt 28 = .ok (.getfield 25, 3) := by decide +kernel
theorem dM_byteAt_31 : decode cM_byteAt 31 = .ok (.iload_n 1, 1) := by decide +kernel
theorem dM_byteAt_32 : decode cM_byteAt 32 = .ok (.iaload, 1) := by decide +kernel
theorem dM_byteAt_33 : decode cM_byteAt 33 = .ok (.goto 4, 3) := by decide +kernel
theorem dM_byteAt_36 : decode cM_byteAt 36 = .ok (.iconst (-1), 1) := by decide +kernel
theorem dM_byteAt_37 : decode cM_byteAt 37 = .ok (.ireturn, 1) := by decide +kernel

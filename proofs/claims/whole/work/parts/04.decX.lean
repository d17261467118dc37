theorem dX_init_0 : decode cX_init 0 = .ok (.aload_n 0, 1) := by decide +kernel
theorem dX_init_1 : decode cX_init 1 = .ok (.invokespecial 3, 3) := by decide +kernel
theorem dX_init_4 : decode cX_init 4 = .ok (.aload_n 0, 1) := by decide +kernel
theorem dX_init_5 : decode cX_init 5 = .ok (.iconst 5, 1) := by decide +kernel
theorem dX_init_6 : decode cX_init 6 = .ok (.newarray .int, 2) := by decide +kernel
theorem dX_init_8 : decode cX_init 8 = .ok (.putfield 9, 3) := by decide +kernel
theorem dX_init_11 : decode cX_init 11 = .ok (.aload_n 0, 1) := by decide +kernel
theorem dX_init_12 : decode cX_init 12 = .ok (.iconst 5, 1) := by decide +kernel
theorem dX_init_13 : decode cX_init 13 = .ok (.newarray .int, 2) := by decide +kernel
theorem dX_init_15 : decode cX_init 15 = .ok (.putfield 13, 3) := by decide +kernel
theorem dX_init_18 : decode cX_init 18 = .ok (.aload_n 0, 1) := by decide +kernel
theorem dX_init_19 : decode cX_init 19 = .ok (.iconst 5, 1) := by decide +kernel
theorem dX_init_20 : decode cX_init 20 = .ok (.newarray .int, 2) := by decide +kernel
theorem dX_init_22 : decode cX_init 22 = .ok (.putfield 16, 3) := by decide +kernel
theorem dX_init_25 : decode cX_init 25 = .ok (.aload_n 0, 1) := by decide +kernel
theorem dX_init_26 : decode cX_init 26 = .ok (.iconst 0, 1) := by decide +kernel
theorem dX_init_27 : decode cX_init 27 = .ok (.putfield 19, 3) := by decide +kernel
theorem dX_init_30 : decode cX_init 30 = .ok (.aload_n 0, 1) := by decide +kernel
theorem dX_init_31 : decode cX_init 31 = .ok (.sipush 1920, 3) := by decide +kernel
theorem dX_init_34 : decode cX_init 34 = .ok (.newarray .int, 2) := by decide +kernel
theorem dX_init_36 : decode cX_init 36 = .ok (.putfield 23, 3) := by decide +kernel
theorem dX_init_39 : decode cX_init 39 = .ok (.aload_n 0, 1) := by decide +kernel
theorem dX_init_40 : decode cX_init 40 = .ok (.sipush 384, 3) := by decide +kernel
theorem dX_init_43 : decode cX_init 43 = .ok (.newarray .int, 2) := by decide +kernel
theorem dX_init_45 : decode cX_init 45 = .ok (.putfield 26, 3) := by decide +kernel
theorem dX_init_48 : decode cX_init 48 = .ok (.aload_n 0, 1) := by decide +kernel
theorem dX_init_49 : decode cX_init 49 = .ok (.sipush 384, 3) := by decide +kernel
theorem dX_init_52 : decode cX_init 52 = .ok (.newarray .int, 2) := by decide +kernel
theorem dX_init_54 : decode cX_init 54 = .ok (.putfield 29, 3) := by decide +kernel
theorem dX_init_57 : decode cX_init 57 = .ok (.aload_n 0, 1) := by decide +kernel
theorem dX_init_58 : decode cX_init 58 = .ok (.bipush 8, 2) := by decide +kernel
theorem dX_init_60 : decode cX_init 60 = .ok (.newarray .int, 2) := by decide +kernel
theorem dX_init_62 : decode cX_init 62 = .ok (.putfield 32, 3) := by decide +kernel
theorem dX_init_65 : decode cX_init 65 = .ok (.aload_n 0, 1) := by decide +kernel
theorem dX_init_66 : decode cX_init 66 = .ok (.sipush 512, 3) := by decide +kernel
theorem dX_init_69 : decode cX_init 69 = .ok (.newarray .int, 2) := by decide +kernel
theorem dX_init_71 : decode cX_init 71 = .ok (.putfield 35, 3) := by decide +kernel
theorem dX_init_74 : decode cX_init 74 = .ok (.aload_n 0, 1) := by decide +kernel
theorem dX_init_75 : decode cX_init 75 = .ok (.sipush 392, 3) := by decide +kernel
theorem dX_init_78 : decode cX_init 78 = .ok (.newarray .int, 2) := by decide +kernel
theorem dX_init_80 : decode cX_init 80 = .ok (.putfield 38, 3) := by decide +kernel
theorem dX_init_83 : decode cX_init 83 = .ok (.iconst 0, 1) := by decide +kernel
theorem dX_init_84 : decode cX_init 84 = .ok (.istore_n 1, 1) := by decide +kernel
theorem dX_init_85 : decode cX_init 85 = .ok (.iload_n 1, 1) := by decide +kernel
theorem dX_init_86 : decode cX_init 86 = .ok (.aload_n 0, 1) := by decide +kernel
theorem dX_init_87 : decode cX_init 87 = .ok (.getfield 35, 3) := by decide +kernel
theorem dX_init_90 : decode cX_init 90 = .ok (.arraylength, 1) := by decide +kernel
theorem dX_init_91 : decode cX_init 91 = .ok (.if_icmp .ge 16, 3) := by decide +kernel
theorem dX_init_94 : decode cX_init 94 = .ok (.aload_n 0, 1) := by decide +kernel
theorem dX_init_95 : decode cX_init 95 = .ok (.getfield 35, 3) := by decide +kernel
theorem dX_init_98 : decode cX_init 98 = .ok (.iload_n 1, 1) := by decide +kernel
theorem dX_init_99 : decode cX_init 99 = .ok (.iconst (-1), 1) := by decide +kernel
theorem dX_init_100 : decode cX_init 100 = .ok (.iastore, 1) := by decide +kernel
theorem dX_init_101 : decode cX_init 101 = .ok (.iinc 1 1, 3) := by decide +kernel
theorem dX_init_104 : decode cX_init 104 = .ok (.goto (-19), 3) := by decide +kernel
theorem dX_init_107 : decode cX_init 107 = .ok (.iconst 0, 1) := by decide +kernel
theorem dX_init_108 : decode cX_init 108 = .ok (.istore_n 1, 1) := by decide +kernel
theorem dX_init_109 : decode cX_init 109 = .ok (.iload_n 1, 1) := by decide +kernel
theorem dX_init_110 : decode cX_init 110 = .ok (.aload_n 0, 1) := by decide +kernel
theorem dX_init_111 : decode cX_init 111 = .ok (.getfield 38, 3) := by decide +kernel
theorem dX_init_114 : decode cX_init 114 = .ok (.arraylength, 1) := by decide +kernel
theorem dX_init_115 : decode cX_init 115 = .ok (.if_icmp .ge 16, 3) := by decide +kernel
theorem dX_init_118 : decode cX_init 118 = .ok (.aload_n 0, 1) := by decide +kernel
theorem dX_init_119 : decode cX_init 119 = .ok (.getfield 38, 3) := by decide +kernel
theorem dX_init_122 : decode cX_init 122 = .ok (.iload_n 1, 1) := by decide +kernel
theorem dX_init_123 : decode cX_init 123 = .ok (.iconst (-1), 1) := by decide +kernel
theorem dX_init_124 : decode cX_init 124 = .ok (.iastore, 1) := by decide +kernel
theorem dX_init_125 : decode cX_init 125 = .ok (.iinc 1 1, 3) := by decide +kernel
theorem dX_init_128 : decode cX_init 128 = .ok (.goto (-19), 3) := by decide +kernel
theorem dX_init_131 : decode cX_init 131 = .ok (.return_, 1) := by decide +kernel
theorem dX_say_0 : decode cX_say 0 = .ok (.aload_n 0, 1) := by decide +kernel
theorem dX_say_1 : decode cX_say 1 = .ok (.getfield 9, 3) := by decide +kernel
theorem dX_say_4 : decode cX_say 4 = .ok (.iconst 0, 1) := by decide +kernel
theorem dX_say_5 : decode cX_say 5 = .ok (.iload_n 1, 1) := by decide +kernel
theorem dX_say_6 : decode cX_say 6 = .ok (.iastore, 1) := by decide +kernel
theorem dX_say_7 : decode cX_say 7 = .ok (.aload_n 0, 1) := by decide +kernel
theorem dX_say_8 : decode cX_say 8 = .ok (.getfield 9, 3) := by decide +kernel
theorem dX_say_11 : decode cX_say 11 = .ok (.iconst 1, 1) := by decide +kernel
theorem dX_say_12 : decode cX_say 12 = .ok (.iload_n 2, 1) := by decide +kernel
theorem dX_say_13 : decode cX_say 13 = .ok (.iastore, 1) := by decide +kernel
theorem dX_say_14 : decode cX_say 14 = .ok (.aload_n 0, 1) := by decide +kernel
theorem dX_say_15 : decode cX_say 15 = .ok (.getfield 9, 3) := by decide +kernel
theorem dX_say_18 : decode cX_say 18 = .ok (.iconst 2, 1) := by decide +kernel
theorem dX_say_19 : decode cX_say 19 = .ok (.iload_n 3, 1) := by decide +kernel
theorem dX_say_20 : decode cX_say 20 = .ok (.iastore, 1) := by decide +kernel
theorem dX_say_21 : decode cX_say 21 = .ok (.aload_n 0, 1) := by decide +kernel
theorem dX_say_22 : decode cX_say 22 = .ok (.getfield 9, 3) := by decide +kernel
theorem dX_say_25 : decode cX_say 25 = .ok (.iconst 3, 1) := by decide +kernel
theorem dX_say_26 : decode cX_say 26 = .ok (.iload 4, 2) := by decide +kernel
theorem dX_say_28 : decode cX_say 28 = .ok (.iastore, 1) := by decide +kernel
theorem dX_say_29 : decode cX_say 29 = .ok (.aload_n 0, 1) := by decide +kernel
theorem dX_say_30 : decode cX_say 30 = .ok (.getfield 9, 3) := by decide +kernel
theorem dX_say_33 : decode cX_say 33 = .ok (.iconst 4, 1) := by decide +kernel
theorem dX_say_34 : decode cX_say 34 = .ok (.iload 5, 2) := by decide +kernel
theorem dX_say_36 : decode cX_say 36 = .ok (.iastore, 1) := by decide +kernel
theorem dX_say_37 : decode cX_say 37 = .ok (.return_, 1) := by decide +kernel
theorem dX_add_0 : decode cX_add 0 = .ok (.iload_n 1, 1) := by decide +kernel
theorem dX_add_1 : decode cX_add 1 = .ok (.invokestatic 41, 3) := by decide +kernel
theorem dX_add_4 : decode cX_add 4 = .ok (.iload_n 3, 1) := by decide +kernel
theorem dX_add_5 : decode cX_add 5 = .ok (.invokestatic 45, 3) := by decide +kernel
theorem dX_add_8 : decode cX_add 8 = .ok (.aload_n 0, 1) := by decide +kernel
theorem dX_add_9 : decode cX_add 9 = .ok (.iload_n 2, 1) := by decide +kernel
theorem dX_add_10 : decode cX_add 10 = .ok (.invokevirtual 48, 3) := by decide +kernel
theorem dX_add_13 : decode cX_add 13 = .ok (.aload_n 0, 1) := by decide +kernel
theorem dX_add_14 : decode cX_add 14 = .ok (.iload_n 1, 1) := by decide +kernel
theorem dX_add_15 : decode cX_add 15 = .ok (.invokevirtual 51, 3) := by decide +kernel
theorem dX_add_18 : decode cX_add 18 = .ok (.invokestatic 55, 3) := by decide +kernel
theorem dX_add_21 : decode cX_add 21 = .ok (.ifCond .eq 13, 3) := by decide +kernel
theorem dX_add_24 : decode cX_add 24 = .ok (.new 59, 3) := by decide +kernel
theorem dX_add_27 : decode cX_add 27 = .ok (.dup, 1) := by decide +kernel
theorem dX_add_28 : decode cX_add 28 = .ok (.ldc 61, 2) := by decide +kernel
theorem dX_add_30 : decode cX_add 30 = .ok (.invokespecial 63, 3) := by decide +kernel
theorem dX_add_33 : decode cX_add 33 = .ok (.athrow, 1) := by decide +kernel
theorem dX_add_34 : decode cX_add 34 = .ok (.aload_n 0, 1) := by decide +kernel
theorem dX_add_35 : decode cX_add 35 = .ok (.iload_n 1, 1) := by decide +kernel
theorem dX_add_36 : decode cX_add 36 = .ok (.invokevirtual 66, 3) := by decide +kernel
theorem dX_add_39 : decode cX_add 39 = .ok (.istore 4, 2) := by decide +kernel
theorem dX_add_41 : decode cX_add 41 = .ok (.iload 4, 2) := by decide +kernel
theorem dX_add_43 : decode cX_add 43 = .ok (.invokestatic 55, 3) := by decide +kernel
theorem dX_add_46 : decode cX_add 46 = .ok (.ifCond .ne 13, 3) := by decide +kernel
theorem dX_add_49 : decode cX_add 49 = .ok (.new 59, 3) := by decide +kernel
theorem dX_add_52 : decode cX_add 52 = .ok (.dup, 1) := by decide +kernel
theorem dX_add_53 : decode cX_add 53 = .ok (.ldc 69, 2) := by decide +kernel
theorem dX_add_55 : decode cX_add 55 = .ok (.invokespecial 63, 3) := by decide +kernel
theorem dX_add_58 : decode cX_add 58 = .ok (.athrow, 1) := by decide +kernel
theorem dX_add_59 : decode cX_add 59 = .ok (.aload_n 0, 1) := by decide +kernel
theorem dX_add_60 : decode cX_add 60 = .ok (.iload 4, 2) := by decide +kernel
theorem dX_add_62 : decode cX_add 62 = .ok (.iload_n 2, 1) := by decide +kernel
theorem dX_add_63 : decode cX_add 63 = .ok (.invokevirtual 71, 3) := by decide +kernel
theorem dX_add_66 : decode cX_add 66 = .ok (.aload_n 0, 1) := by decide +kernel
theorem dX_add_67 : decode cX_add 67 = .ok (.getfield 29, 3) := by decide +kernel
theorem dX_add_70 : decode cX_add 70 = .ok (.iload 4, 2) := by decide +kernel
theorem dX_add_72 : decode cX_add 72 = .ok (.iload_n 3, 1) := by decide +kernel
theorem dX_add_73 : decode cX_add 73 = .ok (.iastore, 1) := by decide +kernel
theorem dX_add_74 : decode cX_add 74 = .ok (.aload_n 0, 1) := by decide +kernel
theorem dX_add_75 : decode cX_add 75 = .ok (.aload_n 0, 1) := by decide +kernel
theorem dX_add_76 : decode cX_add 76 = .ok (.getfield 35, 3) := by decide +kernel
theorem dX_add_79 : decode cX_add 79 = .ok (.aload_n 0, 1) := by decide +kernel
theorem dX_add_80 : decode cX_add 80 = .ok (.iload_n 1, 1) := by decide +kernel
theorem dX_add_81 : decode cX_add 81 = .ok (.invokevirtual 75, 3) := by decide +kernel
theorem dX_add_84 : decode cX_add 84 = .ok (.iload 4, 2) := by decide +kernel
theorem dX_add_86 : decode cX_add 86 = .ok (.invokevirtual 78, 3) := by decide +kernel
theorem dX_add_89 : decode cX_add 89 = .ok (.aload_n 0, 1) := by decide +kernel
theorem dX_add_90 : decode cX_add 90 = .ok (.aload_n 0, 1) := by decide +kernel
theorem dX_add_91 : decode cX_add 91 = .ok (.getfield 38, 3) := by decide +kernel
theorem dX_add_94 : decode cX_add 94 = .ok (.iload_n 1, 1) := by decide +kernel
theorem dX_add_95 : decode cX_add 95 = .ok (.invokestatic 82, 3) := by decide +kernel
theorem dX_add_98 : decode cX_add 98 = .ok (.iload 4, 2) := by decide +kernel
theorem dX_add_100 : decode cX_add 100 = .ok (.invokevirtual 78, 3) := by decide +kernel
theorem dX_add_103 : decode cX_add 103 = .ok (.aload_n 0, 1) := by decide +kernel
theorem dX_add_104 : decode cX_add 104 = .ok (.getfield 32, 3) := by decide +kernel
theorem dX_add_107 : decode cX_add 107 = .ok (.iload_n 1, 1) := by decide +kernel
theorem dX_add_108 : decode cX_add 108 = .ok (.dup2, 1) := by decide +kernel
theorem dX_add_109 : decode cX_add 109 = .ok (.iaload, 1) := by decide +kernel
theorem dX_add_110 : decode cX_add 110 = .ok (.iconst 1, 1) := by decide +kernel
theorem dX_add_111 : decode cX_add 111 = .ok (.iadd, 1) := by decide +kernel
theorem dX_add_112 : decode cX_add 112 = .ok (.iastore, 1) := by decide +kernel
theorem dX_add_113 : decode cX_add 113 = .ok (.aload_n 0, 1) := by decide +kernel
theorem dX_add_114 : decode cX_add 114 = .ok (.getfield 32, 3) := by decide +kernel
theorem dX_add_117 : decode cX_add 117 = .ok (.iload_n 1, 1) := by decide +kernel
theorem dX_add_118 : decode cX_add 118 = .ok (.iaload, 1) := by decide +kernel
theorem dX_add_119 : decode cX_add 119 = .ok (.ireturn, 1) := by decide +kernel
theorem dX_find_0 : decode cX_find 0 = .ok (.iload_n 1, 1) := by decide +kernel
theorem dX_find_1 : decode cX_find 1 = .ok (.invokestatic 41, 3) := by decide +kernel
theorem dX_find_4 : decode cX_find 4 = .ok (.aload_n 0, 1) := by decide +kernel
theorem dX_find_5 : decode cX_find 5 = .ok (.iload_n 2, 1) := by decide +kernel
theorem dX_find_6 : decode cX_find 6 = .ok (.invokevirtual 48, 3) := by decide +kernel
theorem dX_find_9 : decode cX_find 9 = .ok (.aload_n 0, 1) := by decide +kernel
theorem dX_find_10 : decode cX_find 10 = .ok (.iload_n 1, 1) := by decide +kernel
theorem dX_find_11 : decode cX_find 11 = .ok (.invokevirtual 51, 3) := by decide +kernel
theorem dX_find_14 : decode cX_find 14 = .ok (.istore_n 3, 1) := by decide +kernel
theorem dX_find_15 : decode cX_find 15 = .ok (.iload_n 3, 1) := by decide +kernel
theorem dX_find_16 : decode cX_find 16 = .ok (.invokestatic 55, 3) := by decide +kernel
theorem dX_find_19 : decode cX_find 19 = .ok (.ifCond .eq 12, 3) := by decide +kernel
theorem dX_find_22 : decode cX_find 22 = .ok (.aload_n 0, 1) := by decide +kernel
theorem dX_find_23 : decode cX_find 23 = .ok (.getfield 29, 3) := by decide +kernel
theorem dX_find_26 : decode cX_find 26 = .ok (.iload_n 3, 1) := by decide +kernel
theorem dX_find_27 : decode cX_find 27 = .ok (.iaload, 1) := by decide +kernel
theorem dX_find_28 : decode cX_find 28 = .ok (.goto 4, 3) := by decide +kernel
theorem dX_find_31 : decode cX_find 31 = .ok (.iconst (-1), 1) := by decide +kernel
theorem dX_find_32 : decode cX_find 32 = .ok (.ireturn, 1) := by decide +kernel
theorem dX_remove_0 : decode cX_remove 0 = .ok (.iload_n 1, 1) := by decide +kernel
theorem dX_remove_1 : decode cX_remove 1 = .ok (.invokestatic 41, 3) := by decide +kernel
theorem dX_remove_4 : decode cX_remove 4 = .ok (.aload_n 0, 1) := by decide +kernel
theorem dX_remove_5 : decode cX_remove 5 = .ok (.iload_n 2, 1) := by decide +kernel
theorem dX_remove_6 : decode cX_remove 6 = .ok (.invokevirtual 48, 3) := by decide +kernel
theorem dX_remove_9 : decode cX_remove 9 = .ok (.aload_n 0, 1) := by decide +kernel
theorem dX_remove_10 : decode cX_remove 10 = .ok (.iload_n 1, 1) := by decide +kernel
theorem dX_remove_11 : decode cX_remove 11 = .ok (.invokevirtual 51, 3) := by decide +kernel
theorem dX_remove_14 : decode cX_remove 14 = .ok (.istore_n 3, 1) := by decide +kernel
theorem dX_remove_15 : decode cX_remove 15 = .ok (.iload_n 3, 1) := by decide +kernel
theorem dX_remove_16 : decode cX_remove 16 = .ok (.invokestatic 55, 3) := by decide +kernel
theorem dX_remove_19 : decode cX_remove 19 = .ok (.ifCond .ne 13, 3) := by decide +kernel
theorem dX_remove_22 : decode cX_remove 22 = .ok (.new 59, 3) := by decide +kernel
theorem dX_remove_25 : decode cX_remove 25 = .ok (.dup, 1) := by decide +kernel
theorem dX_remove_26 : decode cX_remove 26 = .ok (.ldc 85, 2) := by decide +kernel
theorem dX_remove_28 : decode cX_remove 28 = .ok (.invokespecial 63, 3) := by decide +kernel
theorem dX_remove_31 : decode cX_remove 31 = .ok (.athrow, 1) := by decide +kernel
theorem dX_remove_32 : decode cX_remove 32 = .ok (.aload_n 0, 1) := by decide +kernel
theorem dX_remove_33 : decode cX_remove 33 = .ok (.aload_n 0, 1) := by decide +kernel
theorem dX_remove_34 : decode cX_remove 34 = .ok (.getfield 35, 3) := by decide +kernel
theorem dX_remove_37 : decode cX_remove 37 = .ok (.aload_n 0, 1) := by decide +kernel
theorem dX_remove_38 : decode cX_remove 38 = .ok (.iload_n 1, 1) := by decide +kernel
theorem dX_remove_39 : decode cX_remove 39 = .ok (.invokevirtual 75, 3) := by decide +kernel
theorem dX_remove_42 : decode cX_remove 42 = .ok (.invokevirtual 87, 3) := by decide +kernel
theorem dX_remove_45 : decode cX_remove 45 = .ok (.aload_n 0, 1) := by decide +kernel
theorem dX_remove_46 : decode cX_remove 46 = .ok (.aload_n 0, 1) := by decide +kernel
theorem dX_remove_47 : decode cX_remove 47 = .ok (.getfield 38, 3) := by decide +kernel
theorem dX_remove_50 : decode cX_remove 50 = .ok (.iload_n 1, 1) := by decide +kernel
theorem dX_remove_51 : decode cX_remove 51 = .ok (.invokestatic 82, 3) := by decide +kernel
theorem dX_remove_54 : decode cX_remove 54 = .ok (.invokevirtual 87, 3) := by decide +kernel
theorem dX_remove_57 : decode cX_remove 57 = .ok (.aload_n 0, 1) := by decide +kernel
theorem dX_remove_58 : decode cX_remove 58 = .ok (.getfield 26, 3) := by decide +kernel
theorem dX_remove_61 : decode cX_remove 61 = .ok (.iload_n 3, 1) := by decide +kernel
theorem dX_remove_62 : decode cX_remove 62 = .ok (.iconst 0, 1) := by decide +kernel
theorem dX_remove_63 : decode cX_remove 63 = .ok (.iastore, 1) := by decide +kernel
theorem dX_remove_64 : decode cX_remove 64 = .ok (.aload_n 0, 1) := by decide +kernel
theorem dX_remove_65 : decode cX_remove 65 = .ok (.getfield 32, 3) := by decide +kernel
theorem dX_remove_68 : decode cX_remove 68 = .ok (.iload_n 1, 1) := by decide +kernel
theorem dX_remove_69 : decode cX_remove 69 = .ok (.dup2, 1) := by decide +kernel
theorem dX_remove_70 : decode cX_remove 70 = .ok (.iaload, 1) := by decide +kernel
theorem dX_remove_71 : decode cX_remove 71 = .ok (.iconst 1, 1) := by decide +kernel
theorem dX_remove_72 : decode cX_remove 72 = .ok (.isub, 1) := by decide +kernel
theorem dX_remove_73 : decode cX_remove 73 = .ok (.iastore, 1) := by decide +kernel
theorem dX_remove_74 : decode cX_remove 74 = .ok (.aload_n 0, 1) := by decide +kernel
theorem dX_remove_75 : decode cX_remove 75 = .ok (.getfield 29, 3) := by decide +kernel
theorem dX_remove_78 : decode cX_remove 78 = .ok (.iload_n 3, 1) := by decide +kernel
theorem dX_remove_79 : decode cX_remove 79 = .ok (.iaload, 1) := by decide +kernel
theorem dX_remove_80 : decode cX_remove 80 = .ok (.ireturn, 1) := by decide +kernel
theorem dX_change_0 : decode cX_change 0 = .ok (.iload_n 1, 1) := by decide +kernel
theorem dX_change_1 : decode cX_change 1 = .ok (.invokestatic 41, 3) := by decide +kernel
theorem dX_change_4 : decode cX_change 4 = .ok (.iload_n 3, 1) := by decide +kernel
theorem dX_change_5 : decode cX_change 5 = .ok (.invokestatic 45, 3) := by decide +kernel
theorem dX_change_8 : decode cX_change 8 = .ok (.aload_n 0, 1) := by decide +kernel
theorem dX_change_9 : decode cX_change 9 = .ok (.iload_n 2, 1) := by decide +kernel
theorem dX_change_10 : decode cX_change 10 = .ok (.invokevirtual 48, 3) := by decide +kernel
theorem dX_change_13 : decode cX_change 13 = .ok (.aload_n 0, 1) := by decide +kernel
theorem dX_change_14 : decode cX_change 14 = .ok (.iload_n 1, 1) := by decide +kernel
theorem dX_change_15 : decode cX_change 15 = .ok (.invokevirtual 51, 3) := by decide +kernel
theorem dX_change_18 : decode cX_change 18 = .ok (.istore 4, 2) := by decide +kernel
theorem dX_change_20 : decode cX_change 20 = .ok (.iload 4, 2) := by decide +kernel
theorem dX_change_22 : decode cX_change 22 = .ok (.invokestatic 55, 3) := by decide +kernel
theorem dX_change_25 : decode cX_change 25 = .ok (.ifCond .ne 13, 3) := by decide +kernel
theorem dX_change_28 : decode cX_change 28 = .ok (.new 59, 3) := by decide +kernel
theorem dX_change_31 : decode cX_change 31 = .ok (.dup, 1) := by decide +kernel
theorem dX_change_32 : decode cX_change 32 = .ok (.ldc 85, 2) := by decide +kernel
theorem dX_change_34 : decode cX_change 34 = .ok (.invokespecial 63, 3) := by decide +kernel
theorem dX_change_37 : decode cX_change 37 = .ok (.athrow, 1) := by decide +kernel
theorem dX_change_38 : decode cX_change 38 = .ok (.aload_n 0, 1) := by decide +kernel
theorem dX_change_39 : decode cX_change 39 = .ok (.getfield 29, 3) := by decide +kernel
theorem dX_change_42 : decode cX_change 42 = .ok (.iload 4, 2) := by decide +kernel
theorem dX_change_44 : decode cX_change 44 = .ok (.iaload, 1) := by decide +kernel
theorem dX_change_45 : decode cX_change 45 = .ok (.istore 5, 2) := by decide +kernel
theorem dX_change_47 : decode cX_change 47 = .ok (.aload_n 0, 1) := by decide +kernel
theorem dX_change_48 : decode cX_change 48 = .ok (.getfield 29, 3) := by decide +kernel
theorem dX_change_51 : decode cX_change 51 = .ok (.iload 4, 2) := by decide +kernel
theorem dX_change_53 : decode cX_change 53 = .ok (.iload_n 3, 1) := by decide +kernel
theorem dX_change_54 : decode cX_change 54 = .ok (.iastore, 1) := by decide +kernel
theorem dX_change_55 : decode cX_change 55 = .ok (.iload 5, 2) := by decide +kernel
theorem dX_change_57 : decode cX_change 57 = .ok (.ireturn, 1) := by decide +kernel
theorem dX_size_0 : decode cX_size 0 = .ok (.iload_n 1, 1) := by decide +kernel
theorem dX_size_1 : decode cX_size 1 = .ok (.invokestatic 41, 3) := by decide +kernel
theorem dX_size_4 : decode cX_size 4 = .ok (.aload_n 0, 1) := by decide +kernel
theorem dX_size_5 : decode cX_size 5 = .ok (.getfield 32, 3) := by decide +kernel
theorem dX_size_8 : decode cX_size 8 = .ok (.iload_n 1, 1) := by decide +kernel
theorem dX_size_9 : decode cX_size 9 = .ok (.iaload, 1) := by decide +kernel
theorem dX_size_10 : decode cX_size 10 = .ok (.ireturn, 1) := by decide +kernel
theorem dX_nth_0 : decode cX_nth 0 = .ok (.iload_n 1, 1) := by decide +kernel
theorem dX_nth_1 : decode cX_nth 1 = .ok (.invokestatic 41, 3) := by decide +kernel
theorem dX_nth_4 : decode cX_nth 4 = .ok (.iload_n 2, 1) := by decide +kernel
theorem dX_nth_5 : decode cX_nth 5 = .ok (.ifCond .ge 13, 3) := by decide +kernel
theorem dX_nth_8 : decode cX_nth 8 = .ok (.new 91, 3) := by decide +kernel
theorem dX_nth_11 : decode cX_nth 11 = .ok (.dup, 1) := by decide +kernel
theorem dX_nth_12 : decode cX_nth 12 = .ok (.ldc 93, 2) := by decide +kernel
theorem dX_nth_14 : decode cX_nth 14 = .ok (.invokespecial 95, 3) := by decide +kernel
theorem dX_nth_17 : decode cX_nth 17 = .ok (.athrow, 1) := by decide +kernel
theorem dX_nth_18 : decode cX_nth 18 = .ok (.aload_n 0, 1) := by decide +kernel
theorem dX_nth_19 : decode cX_nth 19 = .ok (.iload_n 1, 1) := by decide +kernel
theorem dX_nth_20 : decode cX_nth 20 = .ok (.iload_n 2, 1) := by decide +kernel
theorem dX_nth_21 : decode cX_nth 21 = .ok (.invokevirtual 96, 3) := by decide +kernel
theorem dX_nth_24 : decode cX_nth 24 = .ok (.istore_n 3, 1) := by decide +kernel
theorem dX_nth_25 : decode cX_nth 25 = .ok (.iload_n 3, 1) := by decide +kernel
theorem dX_nth_26 : decode cX_nth 26 = .ok (.invokestatic 55, 3) := by decide +kernel
theorem dX_nth_29 : decode cX_nth 29 = .ok (.ifCond .ne 10, 3) := by decide +kernel
theorem dX_nth_32 : decode cX_nth 32 = .ok (.aload_n 0, 1) := by decide +kernel
theorem dX_nth_33 : decode cX_nth 33 = .ok (.iconst 0, 1) := by decide +kernel
theorem dX_nth_34 : decode cX_nth 34 = .ok (.putfield 19, 3) := by decide +kernel
theorem dX_nth_37 : decode cX_nth 37 = .ok (.iconst (-1), 1) := by decide +kernel
theorem dX_nth_38 : decode cX_nth 38 = .ok (.ireturn, 1) := by decide +kernel
theorem dX_nth_39 : decode cX_nth 39 = .ok (.iconst 0, 1) := by decide +kernel
theorem dX_nth_40 : decode cX_nth 40 = .ok (.istore 4, 2) := by decide +kernel
theorem dX_nth_42 : decode cX_nth 42 = .ok (.iload 4, 2) := by decide +kernel
theorem dX_nth_44 : decode cX_nth 44 = .ok (.iconst 5, 1) := by decide +kernel
theorem dX_nth_45 : decode cX_nth 45 = .ok (.if_icmp .ge 27, 3) := by decide +kernel
theorem dX_nth_48 : decode cX_nth 48 = .ok (.aload_n 0, 1) := by decide +kernel
theorem dX_nth_49 : decode cX_nth 49 = .ok (.getfield 16, 3) := by decide +kernel
theorem dX_nth_52 : decode cX_nth 52 = .ok (.iload 4, 2) := by decide +kernel
theorem dX_nth_54 : decode cX_nth 54 = .ok (.aload_n 0, 1) := by decide +kernel
theorem dX_nth_55 : decode cX_nth 55 = .ok (.getfield 23, 3) := by decide +kernel
theorem dX_nth_58 : decode cX_nth 58 = .ok (.iload_n 3, 1) := by decide +kernel
theorem dX_nth_59 : decode cX_nth 59 = .ok (.iconst 5, 1) := by decide +kernel
theorem dX_nth_60 : decode cX_nth 60 = .ok (.imul, 1) := by decide +kernel
theorem dX_nth_61 : decode cX_nth 61 = .ok (.iload 4, 2) := by decide +kernel
theorem dX_nth_63 : decode cX_nth 63 = .ok (.iadd, 1) := by decide +kernel
theorem dX_nth_64 : decode cX_nth 64 = .ok (.iaload, 1) := by decide +kernel
theorem dX_nth_65 : decode cX_nth 65 = .ok (.iastore, 1) := by decide +kernel
theorem dX_nth_66 : decode cX_nth 66 = .ok (.iinc 4 1, 3) := by decide +kernel
theorem dX_nth_69 : decode cX_nth 69 = .ok (.goto (-27), 3) := by decide +kernel
theorem dX_nth_72 : decode cX_nth 72 = .ok (.aload_n 0, 1) := by decide +kernel
theorem dX_nth_73 : decode cX_nth 73 = .ok (.aload_n 0, 1) := by decide +kernel
theorem dX_nth_74 : decode cX_nth 74 = .ok (.getfield 26, 3) := by decide +kernel
theorem dX_nth_77 : decode cX_nth 77 = .ok (.iload_n 3, 1) := by decide +kernel
theorem dX_nth_78 : decode cX_nth 78 = .ok (.iaload, 1) := by decide +kernel
theorem dX_nth_79 : decode cX_nth 79 = .ok (.putfield 19, 3) := by decide +kernel
theorem dX_nth_82 : decode cX_nth 82 = .ok (.aload_n 0, 1) := by decide +kernel
theorem dX_nth_83 : decode cX_nth 83 = .ok (.getfield 19, 3) := by decide +kernel
theorem dX_nth_86 : decode cX_nth 86 = .ok (.ireturn, 1) := by decide +kernel
theorem dX_byteAt_0 : decode cX_byteAt 0 = .ok (.iload_n 1, 1) := by decide +kernel
theorem dX_byteAt_1 : decode cX_byteAt 1 = .ok (.ifCond .ge 13, 3) := by decide +kernel
theorem dX_byteAt_4 : decode cX_byteAt 4 = .ok (.new 91, 3) := by decide +kernel
theorem dX_byteAt_7 : decode cX_byteAt 7 = .ok (.dup, 1) := by decide +kernel
theorem dX_byteAt_8 : decode cX_byteAt 8 = .ok (.ldc 100, 2) := by decide +kernel
theorem dX_byteAt_10 : decode cX_byteAt 10 = .ok (.invokespecial 95, 3) := by decide +kernel
theorem dX_byteAt_13 : decode cX_byteAt 13 = .ok (.athrow, 1) := by decide +kernel
theorem dX_byteAt_14 : decode cX_byteAt 14 = .ok (.iload_n 1, 1) := by decide +kernel
theorem dX_byteAt_15 : decode cX_byteAt 15 = .ok (.aload_n 0, 1) := by decide +kernel
theorem dX_byteAt_16 : decode cX_byteAt 16 = .ok (.getfield 19, 3) := by decide +kernel
theorem dX_byteAt_19 : decode cX_byteAt 19 = .ok (.if_icmp .ge 14, 3) := by decide +kernel
theorem dX_byteAt_22 : decode cX_byteAt 22 = .ok (.aload_n 0, 1) := by decide +kernel
theorem dX_byteAt_23 : decode cX_byteAt 23 = .ok (.getfield 16, 3) := by decide +kernel
theorem dX_byteAt_26 : decode cX_byteAt 26 = .ok (.iload_n 1, 1) := by decide +kernel
theorem dX_byteAt_27 : decode cX_byteAt 27 = .ok (.invokestatic 102, 3) := by decide +kernel
theorem dX_byteAt_30 : decode cX_byteAt 30 = .ok (.goto 4, 3) := by decide +kernel
theorem dX_byteAt_33 : decode cX_byteAt 33 = .ok (.iconst (-1), 1) := by decide +kernel
theorem dX_byteAt_34 : decode cX_byteAt 34 = .ok (.ireturn, 1) := by decide +kernel
theorem dX_requireDirectory_0 : decode cX_requireDirectory 0 = .ok (.iload_n 0, 1) := by decide +kernel
theorem dX_requireDirectory_1 : decode cX_requireDirectory 1 = .ok (.ifCond .lt 9, 3) := by decide +kernel
theorem dX_requireDirectory_4 : decode cX_requireDirectory 4 = .ok (.iload_n 0, 1) := by decide +kernel
theorem dX_requireDirectory_5 : decode cX_requireDirectory 5 = .ok (.bipush 8, 2) := by decide +kernel
theorem dX_requireDirectory_7 : decode cX_requireDirectory 7 = .ok (.if_icmp .lt 13, 3) := by decide +kernel
theorem dX_requireDirectory_10 : decode cX_requireDirectory 10 = .ok (.new 91, 3) := by decide +kernel
theorem dX_requireDirectory_13 : decode cX_requireDirectory 13 = .ok (.dup, 1) := by decide +kernel
theorem dX_requireDirectory_14 : decode cX_requireDirectory 14 = .ok (.ldc 106, 2) := by decide +kernel
theorem dX_requireDirectory_16 : decode cX_requireDirectory 16 = .ok (.invokespecial 95, 3) := by decide +kernel
theorem dX_requireDirectory_19 : decode cX_requireDirectory 19 = .ok (.athrow, 1) := by decide +kernel
theorem dX_requireDirectory_20 : decode cX_requireDirectory 20 = .ok (.return_, 1) := by decide +kernel
theorem dX_requireId_0 : decode cX_requireId 0 = .ok (.iload_n 0, 1) := by decide +kernel
theorem dX_requireId_1 : decode cX_requireId 1 = .ok (.iconst 1, 1) := by decide +kernel
theorem dX_requireId_2 : decode cX_requireId 2 = .ok (.if_icmp .lt 9, 3) := by decide +kernel
theorem dX_requireId_5 : decode cX_requireId 5 = .ok (.iload_n 0, 1) := by decide +kernel
theorem dX_requireId_6 : decode cX_requireId 6 = .ok (.ldc 108, 2) := by decide +kernel
theorem dX_requireId_8 : decode cX_requireId 8 = .ok (.if_icmp .le 13, 3) := by decide +kernel
theorem dX_requireId_11 : decode cX_requireId 11 = .ok (.new 91, 3) := by decide +kernel
theorem dX_requireId_14 : decode cX_requireId 14 = .ok (.dup, 1) := by decide +kernel
theorem dX_requireId_15 : decode cX_requireId 15 = .ok (.ldc 109, 2) := by decide +kernel
theorem dX_requireId_17 : decode cX_requireId 17 = .ok (.invokespecial 95, 3) := by decide +kernel
theorem dX_requireId_20 : decode cX_requireId 20 = .ok (.athrow, 1) := by decide +kernel
theorem dX_requireId_21 : decode cX_requireId 21 = .ok (.return_, 1) := by decide +kernel
theorem dX_takeKey_0 : decode cX_takeKey 0 = .ok (.iload_n 1, 1) := by decide +kernel
theorem dX_takeKey_1 : decode cX_takeKey 1 = .ok (.iconst 1, 1) := by decide +kernel
theorem dX_takeKey_2 : decode cX_takeKey 2 = .ok (.if_icmp .lt 9, 3) := by decide +kernel
theorem dX_takeKey_5 : decode cX_takeKey 5 = .ok (.iload_n 1, 1) := by decide +kernel
theorem dX_takeKey_6 : decode cX_takeKey 6 = .ok (.bipush 20, 2) := by decide +kernel
theorem dX_takeKey_8 : decode cX_takeKey 8 = .ok (.if_icmp .le 13, 3) := by decide +kernel
theorem dX_takeKey_11 : decode cX_takeKey 11 = .ok (.new 91, 3) := by decide +kernel
theorem dX_takeKey_14 : decode cX_takeKey 14 = .ok (.dup, 1) := by decide +kernel
theorem dX_takeKey_15 : decode cX_takeKey 15 = .ok (.ldc 111, 2) := by decide +kernel
theorem dX_takeKey_17 : decode cX_takeKey 17 = .ok (.invokespecial 95, 3) := by decide +kernel
theorem dX_takeKey_20 : decode cX_takeKey 20 = .ok (.athrow, 1) := by decide +kernel
theorem dX_takeKey_21 : decode cX_takeKey 21 = .ok (.iconst 0, 1) := by decide +kernel
theorem dX_takeKey_22 : decode cX_takeKey 22 = .ok (.istore_n 2, 1) := by decide +kernel
theorem dX_takeKey_23 : decode cX_takeKey 23 = .ok (.iload_n 2, 1) := by decide +kernel
theorem dX_takeKey_24 : decode cX_takeKey 24 = .ok (.iload_n 1, 1) := by decide +kernel
theorem dX_takeKey_25 : decode cX_takeKey 25 = .ok (.if_icmp .ge 38, 3) := by decide +kernel
theorem dX_takeKey_28 : decode cX_takeKey 28 = .ok (.aload_n 0, 1) := by decide +kernel
theorem dX_takeKey_29 : decode cX_takeKey 29 = .ok (.getfield 9, 3) := by decide +kernel
theorem dX_takeKey_32 : decode cX_takeKey 32 = .ok (.iload_n 2, 1) := by decide +kernel
theorem dX_takeKey_33 : decode cX_takeKey 33 = .ok (.invokestatic 102, 3) := by decide +kernel
theorem dX_takeKey_36 : decode cX_takeKey 36 = .ok (.istore_n 3, 1) := by decide +kernel
theorem dX_takeKey_37 : decode cX_takeKey 37 = .ok (.iload_n 3, 1) := by decide +kernel
theorem dX_takeKey_38 : decode cX_takeKey 38 = .ok (.ifCond .eq 9, 3) := by decide +kernel
theorem dX_takeKey_41 : decode cX_takeKey 41 = .ok (.iload_n 3, 1) := by decide +kernel
theorem dX_takeKey_42 : decode cX_takeKey 42 = .ok (.bipush 47, 2) := by decide +kernel
theorem dX_takeKey_44 : decode cX_takeKey 44 = .ok (.if_icmp .ne 13, 3) := by decide +kernel
theorem dX_takeKey_47 : decode cX_takeKey 47 = .ok (.new 91, 3) := by decide +kernel
theorem dX_takeKey_50 : decode cX_takeKey 50 = .ok (.dup, 1) := by decide +kernel
theorem dX_takeKey_51 : decode cX_takeKey 51 = .ok (.ldc 113, 2) := by decide +kernel
theorem dX_takeKey_53 : decode cX_takeKey 53 = .ok (.invokespecial 95, 3) := by decide +kernel
theorem dX_takeKey_56 : decode cX_takeKey 56 = .ok (.athrow, 1) := by decide +kernel
theorem dX_takeKey_57 : decode cX_takeKey 57 = .ok (.iinc 2 1, 3) := by decide +kernel
theorem dX_takeKey_60 : decode cX_takeKey 60 = .ok (.goto (-37), 3) := by decide +kernel
theorem dX_takeKey_63 : decode cX_takeKey 63 = .ok (.iconst 0, 1) := by decide +kernel
theorem dX_takeKey_64 : decode cX_takeKey 64 = .ok (.istore_n 2, 1) := by decide +kernel
theorem dX_takeKey_65 : decode cX_takeKey 65 = .ok (.iload_n 2, 1) := by decide +kernel
theorem dX_takeKey_66 : decode cX_takeKey 66 = .ok (.iconst 5, 1) := by decide +kernel
theorem dX_takeKey_67 : decode cX_takeKey 67 = .ok (.if_icmp .ge 30, 3) := by decide +kernel
theorem dX_takeKey_70 : decode cX_takeKey 70 = .ok (.aload_n 0, 1) := by decide +kernel
theorem dX_takeKey_71 : decode cX_takeKey 71 = .ok (.getfield 13, 3) := by decide +kernel
theorem dX_takeKey_74 : decode cX_takeKey 74 = .ok (.iload_n 2, 1) := by decide +kernel
theorem dX_takeKey_75 : decode cX_takeKey 75 = .ok (.aload_n 0, 1) := by decide +kernel
theorem dX_takeKey_76 : decode cX_takeKey 76 = .ok (.getfield 9, 3) := by decide +kernel
theorem dX_takeKey_79 : decode cX_takeKey 79 = .ok (.iload_n 2, 1) := by decide +kernel
theorem dX_takeKey_80 : decode cX_takeKey 80 = .ok (.iaload, 1) := by decide +kernel
theorem dX_takeKey_81 : decode cX_takeKey 81 = .ok (.iload_n 1, 1) := by decide +kernel
theorem dX_takeKey_82 : decode cX_takeKey 82 = .ok (.iload_n 2, 1) := by decide +kernel
theorem dX_takeKey_83 : decode cX_takeKey 83 = .ok (.iconst 4, 1) := by decide +kernel
theorem dX_takeKey_84 : decode cX_takeKey 84 = .ok (.imul, 1) := by decide +kernel
theorem dX_takeKey_85 : decode cX_takeKey 85 = .ok (.isub, 1) := by decide +kernel
theorem dX_takeKey_86 : decode cX_takeKey 86 = .ok (.invokestatic 115, 3) := by decide +kernel
theorem dX_takeKey_89 : decode cX_takeKey 89 = .ok (.iand, 1) := by decide +kernel
theorem dX_takeKey_90 : decode cX_takeKey 90 = .ok (.iastore, 1) := by decide +kernel
theorem dX_takeKey_91 : decode cX_takeKey 91 = .ok (.iinc 2 1, 3) := by decide +kernel
theorem dX_takeKey_94 : decode cX_takeKey 94 = .ok (.goto (-29), 3) := by decide +kernel
theorem dX_takeKey_97 : decode cX_takeKey 97 = .ok (.return_, 1) := by decide +kernel
theorem dX_maskOfFirst_0 : decode cX_maskOfFirst 0 = .ok (.iload_n 0, 1) := by decide +kernel
theorem dX_maskOfFirst_1 : decode cX_maskOfFirst 1 = .ok (.ifCond .gt 5, 3) := by decide +kernel
theorem dX_maskOfFirst_4 : decode cX_maskOfFirst 4 = .ok (.iconst 0, 1) := by decide +kernel
theorem dX_maskOfFirst_5 : decode cX_maskOfFirst 5 = .ok (.ireturn, 1) := by decide +kernel
theorem dX_maskOfFirst_6 : decode cX_maskOfFirst 6 = .ok (.iload_n 0, 1) := by decide +kernel
theorem dX_maskOfFirst_7 : decode cX_maskOfFirst 7 = .ok (.iconst 4, 1) := by decide +kernel
theorem dX_maskOfFirst_8 : decode cX_maskOfFirst 8 = .ok (.if_icmp .lt 7, 3) := by decide +kernel
theorem dX_maskOfFirst_11 : decode cX_maskOfFirst 11 = .ok (.iconst (-1), 1) := by decide +kernel
theorem dX_maskOfFirst_12 : decode cX_maskOfFirst 12 = .ok (.goto 11, 3) := by decide +kernel
theorem dX_maskOfFirst_15 : decode cX_maskOfFirst 15 = .ok (.iconst (-1), 1) := by decide +kernel
theorem dX_maskOfFirst_16 : decode cX_maskOfFirst 16 = .ok (.bipush 8, 2) := by decide +kernel
theorem dX_maskOfFirst_18 : decode cX_maskOfFirst 18 = .ok (.iconst 4, 1) := by decide +kernel
theorem dX_maskOfFirst_19 : decode cX_maskOfFirst 19 = .ok (.iload_n 0, 1) := by decide +kernel
theorem dX_maskOfFirst_20 : decode cX_maskOfFirst 20 = .ok (.isub, 1) := by decide +kernel
theorem dX_maskOfFirst_21 : decode cX_maskOfFirst 21 = .ok (.imul, 1) := by decide +kernel
theorem dX_maskOfFirst_22 : decode cX_maskOfFirst 22 = .ok (.ishl, 1) := by decide +kernel
theorem dX_maskOfFirst_23 : decode cX_maskOfFirst 23 = .ok (.ireturn, 1) := by decide +kernel
theorem dX_byteOf_0 : decode cX_byteOf 0 = .ok (.aload_n 0, 1) := by decide +kernel
theorem dX_byteOf_1 : decode cX_byteOf 1 = .ok (.iload_n 1, 1) := by decide +kernel
theorem dX_byteOf_2 : decode cX_byteOf 2 = .ok (.iconst 4, 1) := by decide +kernel
theorem dX_byteOf_3 : decode cX_byteOf 3 = .ok (.idiv, 1) := by decide +kernel
theorem dX_byteOf_4 : decode cX_byteOf 4 = .ok (.iaload, 1) := by decide +kernel
theorem dX_byteOf_5 : decode cX_byteOf 5 = .ok (.bipush 24, 2) := by decide +kernel
theorem dX_byteOf_7 : decode cX_byteOf 7 = .ok (.bipush 8, 2) := by decide +kernel
theorem dX_byteOf_9 : decode cX_byteOf 9 = .ok (.iload_n 1, 1) := by decide +kernel
theorem dX_byteOf_10 : decode cX_byteOf 10 = .ok (.iconst 4, 1) := by decide +kernel
theorem dX_byteOf_11 : decode cX_byteOf 11 = .ok (.irem, 1) := by decide +kernel
theorem dX_byteOf_12 : decode cX_byteOf 12 = .ok (.imul, 1) := by decide +kernel
theorem dX_byteOf_13 : decode cX_byteOf 13 = .ok (.isub, 1) := by decide +kernel
theorem dX_byteOf_14 : decode cX_byteOf 14 = .ok (.iushr, 1) := by decide +kernel
theorem dX_byteOf_15 : decode cX_byteOf 15 = .ok (.sipush 255, 3) := by decide +kernel
theorem dX_byteOf_18 : decode cX_byteOf 18 = .ok (.iand, 1) := by decide +kernel
theorem dX_byteOf_19 : decode cX_byteOf 19 = .ok (.ireturn, 1) := by decide +kernel
theorem dX_isSlot_0 : decode cX_isSlot 0 = .ok (.iload_n 0, 1) := by decide +kernel
theorem dX_isSlot_1 : decode cX_isSlot 1 = .ok (.ifCond .lt 14, 3) := by decide +kernel
theorem dX_isSlot_4 : decode cX_isSlot 4 = .ok (.iload_n 0, 1) := by decide +kernel
theorem dX_isSlot_5 : decode cX_isSlot 5 = .ok (.sipush 384, 3) := by decide +kernel
theorem dX_isSlot_8 : decode cX_isSlot 8 = .ok (.if_icmp .ge 7, 3) := by decide +kernel
theorem dX_isSlot_11 : decode cX_isSlot 11 = .ok (.iconst 1, 1) := by decide +kernel
theorem dX_isSlot_12 : decode cX_isSlot 12 = .ok (.goto 4, 3) := by decide +kernel
theorem dX_isSlot_15 : decode cX_isSlot 15 = .ok (.iconst 0, 1) := by decide +kernel
theorem dX_isSlot_16 : decode cX_isSlot 16 = .ok (.ireturn, 1) := by decide +kernel
theorem dX_orderHead_0 : decode cX_orderHead 0 = .ok (.sipush 384, 3) := by decide +kernel
theorem dX_orderHead_3 : decode cX_orderHead 3 = .ok (.iload_n 0, 1) := by decide +kernel
theorem dX_orderHead_4 : decode cX_orderHead 4 = .ok (.iadd, 1) := by decide +kernel
theorem dX_orderHead_5 : decode cX_orderHead 5 = .ok (.ireturn, 1) := by decide +kernel
theorem dX_bucketHead_0 : decode cX_bucketHead 0 = .ok (.iconst 0, 1) := by decide +kernel
theorem dX_bucketHead_1 : decode cX_bucketHead 1 = .ok (.istore_n 2, 1) := by decide +kernel
theorem dX_bucketHead_2 : decode cX_bucketHead 2 = .ok (.iconst 0, 1) := by decide +kernel
theorem dX_bucketHead_3 : decode cX_bucketHead 3 = .ok (.istore_n 3, 1) := by decide +kernel
theorem dX_bucketHead_4 : decode cX_bucketHead 4 = .ok (.iload_n 3, 1) := by decide +kernel
theorem dX_bucketHead_5 : decode cX_bucketHead 5 = .ok (.iconst 5, 1) := by decide +kernel
theorem dX_bucketHead_6 : decode cX_bucketHead 6 = .ok (.if_icmp .ge 21, 3) := by decide +kernel
theorem dX_bucketHead_9 : decode cX_bucketHead 9 = .ok (.iload_n 2, 1) := by decide +kernel
theorem dX_bucketHead_10 : decode cX_bucketHead 10 = .ok (.aload_n 0, 1) := by decide +kernel
theorem dX_bucketHead_11 : decode cX_bucketHead 11 = .ok (.getfield 13, 3) := by decide +kernel
theorem dX_bucketHead_14 : decode cX_bucketHead 14 = .ok (.iload_n 3, 1) := by decide +kernel
theorem dX_bucketHead_15 : decode cX_bucketHead 15 = .ok (.iaload, 1) := by decide +kernel
theorem dX_bucketHead_16 : decode cX_bucketHead 16 = .ok (.ixor, 1) := by decide +kernel
theorem dX_bucketHead_17 : decode cX_bucketHead 17 = .ok (.ldc 118, 2) := by decide +kernel
theorem dX_bucketHead_19 : decode cX_bucketHead 19 = .ok (.imul, 1) := by decide +kernel
theorem dX_bucketHead_20 : decode cX_bucketHead 20 = .ok (.istore_n 2, 1) := by decide +kernel
theorem dX_bucketHead_21 : decode cX_bucketHead 21 = .ok (.iinc 3 1, 3) := by decide +kernel
theorem dX_bucketHead_24 : decode cX_bucketHead 24 = .ok (.goto (-20), 3) := by decide +kernel
theorem dX_bucketHead_27 : decode cX_bucketHead 27 = .ok (.sipush 384, 3) := by decide +kernel
theorem dX_bucketHead_30 : decode cX_bucketHead 30 = .ok (.iload_n 1, 1) := by decide +kernel
theorem dX_bucketHead_31 : decode cX_bucketHead 31 = .ok (.bipush 16, 2) := by decide +kernel
theorem dX_bucketHead_33 : decode cX_bucketHead 33 = .ok (.imul, 1) := by decide +kernel
theorem dX_bucketHead_34 : decode cX_bucketHead 34 = .ok (.iadd, 1) := by decide +kernel
theorem dX_bucketHead_35 : decode cX_bucketHead 35 = .ok (.iload_n 2, 1) := by decide +kernel
theorem dX_bucketHead_36 : decode cX_bucketHead 36 = .ok (.bipush 28, 2) := by decide +kernel
theorem dX_bucketHead_38 : decode cX_bucketHead 38 = .ok (.iushr, 1) := by decide +kernel
theorem dX_bucketHead_39 : decode cX_bucketHead 39 = .ok (.iadd, 1) := by decide +kernel
theorem dX_bucketHead_40 : decode cX_bucketHead 40 = .ok (.ireturn, 1) := by decide +kernel
theorem dX_slotOfKey_0 : decode cX_slotOfKey 0 = .ok (.aload_n 0, 1) := by decide +kernel
theorem dX_slotOfKey_1 : decode cX_slotOfKey 1 = .ok (.getfield 35, 3) := by decide +kernel
theorem dX_slotOfKey_4 : decode cX_slotOfKey 4 = .ok (.aload_n 0, 1) := by decide +kernel
theorem dX_slotOfKey_5 : decode cX_slotOfKey 5 = .ok (.aload_n 0, 1) := by decide +kernel
theorem dX_slotOfKey_6 : decode cX_slotOfKey 6 = .ok (.getfield 35, 3) := by decide +kernel
theorem dX_slotOfKey_9 : decode cX_slotOfKey 9 = .ok (.aload_n 0, 1) := by decide +kernel
theorem dX_slotOfKey_10 : decode cX_slotOfKey 10 = .ok (.iload_n 1, 1) := by decide +kernel
theorem dX_slotOfKey_11 : decode cX_slotOfKey 11 = .ok (.invokevirtual 75, 3) := by decide +kernel
theorem dX_slotOfKey_14 : decode cX_slotOfKey 14 = .ok (.invokevirtual 119, 3) := by decide +kernel
theorem dX_slotOfKey_17 : decode cX_slotOfKey 17 = .ok (.iaload, 1) := by decide +kernel
theorem dX_slotOfKey_18 : decode cX_slotOfKey 18 = .ok (.istore_n 2, 1) := by decide +kernel
theorem dX_slotOfKey_19 : decode cX_slotOfKey 19 = .ok (.iload_n 2, 1) := by decide +kernel
theorem dX_slotOfKey_20 : decode cX_slotOfKey 20 = .ok (.invokestatic 55, 3) := by decide +kernel
theorem dX_slotOfKey_23 : decode cX_slotOfKey 23 = .ok (.ifCond .eq 15, 3) := by decide +kernel
theorem dX_slotOfKey_26 : decode cX_slotOfKey 26 = .ok (.aload_n 0, 1) := by decide +kernel
theorem dX_slotOfKey_27 : decode cX_slotOfKey 27 = .ok (.iload_n 2, 1) := by decide +kernel
theorem dX_slotOfKey_28 : decode cX_slotOfKey 28 = .ok (.invokevirtual 122, 3) := by decide +kernel
theorem dX_slotOfKey_31 : decode cX_slotOfKey 31 = .ok (.ifCond .ne 7, 3) := by decide +kernel
theorem dX_slotOfKey_34 : decode cX_slotOfKey 34 = .ok (.iload_n 2, 1) := by decide +kernel
theorem dX_slotOfKey_35 : decode cX_slotOfKey 35 = .ok (.goto 4, 3) := by decide +kernel
theorem dX_slotOfKey_38 : decode cX_slotOfKey 38 = .ok (.iconst (-1), 1) := by decide +kernel
theorem dX_slotOfKey_39 : decode cX_slotOfKey 39 = .ok (.ireturn, 1) := by decide +kernel
theorem dX_placeBeforeKey_0 : decode cX_placeBeforeKey 0 = .ok (.iload_n 2, 1) := by decide +kernel
theorem dX_placeBeforeKey_1 : decode cX_placeBeforeKey 1 = .ok (.istore_n 3, 1) := by decide +kernel
theorem dX_placeBeforeKey_2 : decode cX_placeBeforeKey 2 = .ok (.iconst 0, 1) := by decide +kernel
theorem dX_placeBeforeKey_3 : decode cX_placeBeforeKey 3 = .ok (.istore 4, 2) := by decide +kernel
theorem dX_placeBeforeKey_5 : decode cX_placeBeforeKey 5 = .ok (.iload 4, 2) := by decide +kernel
theorem dX_placeBeforeKey_7 : decode cX_placeBeforeKey 7 = .ok (.bipush 48, 2) := by decide +kernel
theorem dX_placeBeforeKey_9 : decode cX_placeBeforeKey 9 = .ok (.if_icmp .ge 37, 3) := by decide +kernel
theorem dX_placeBeforeKey_12 : decode cX_placeBeforeKey 12 = .ok (.aload_n 1, 1) := by decide +kernel
theorem dX_placeBeforeKey_13 : decode cX_placeBeforeKey 13 = .ok (.iload_n 3, 1) := by decide +kernel
theorem dX_placeBeforeKey_14 : decode cX_placeBeforeKey 14 = .ok (.iaload, 1) := by decide +kernel
theorem dX_placeBeforeKey_15 : decode cX_placeBeforeKey 15 = .ok (.istore 5, 2) := by decide +kernel
theorem dX_placeBeforeKey_17 : decode cX_placeBeforeKey 17 = .ok (.iload 5, 2) := by decide +kernel
theorem dX_placeBeforeKey_19 : decode cX_placeBeforeKey 19 = .ok (.invokestatic 55, 3) := by decide +kernel
theorem dX_placeBeforeKey_22 : decode cX_placeBeforeKey 22 = .ok (.ifCond .eq 24, 3) := by decide +kernel
theorem dX_placeBeforeKey_25 : decode cX_placeBeforeKey 25 = .ok (.aload_n 0, 1) := by decide +kernel
theorem dX_placeBeforeKey_26 : decode cX_placeBeforeKey 26 = .ok (.iload 5, 2) := by decide +kernel
theorem dX_placeBeforeKey_28 : decode cX_placeBeforeKey 28 = .ok (.invokevirtual 122, 3) := by decide +kernel
theorem dX_placeBeforeKey_31 : decode cX_placeBeforeKey 31 = .ok (.ifCond .lt 6, 3) := by decide +kernel
theorem dX_placeBeforeKey_34 : decode cX_placeBeforeKey 34 = .ok (.goto 12, 3) := by decide +kernel
theorem dX_placeBeforeKey_37 : decode cX_placeBeforeKey 37 = .ok (.iload 5, 2) := by decide +kernel
theorem dX_placeBeforeKey_39 : decode cX_placeBeforeKey 39 = .ok (.istore_n 3, 1) := by decide +kernel
theorem dX_placeBeforeKey_40 : decode cX_placeBeforeKey 40 = .ok (.iinc 4 1, 3) := by decide +kernel
theorem dX_placeBeforeKey_43 : decode cX_placeBeforeKey 43 = .ok (.goto (-38), 3) := by decide +kernel
theorem dX_placeBeforeKey_46 : decode cX_placeBeforeKey 46 = .ok (.iload_n 3, 1) := by decide +kernel
theorem dX_placeBeforeKey_47 : decode cX_placeBeforeKey 47 = .ok (.ireturn, 1) := by decide +kernel
theorem dX_compareWithKey_0 : decode cX_compareWithKey 0 = .ok (.iconst 0, 1) := by decide +kernel
theorem dX_compareWithKey_1 : decode cX_compareWithKey 1 = .ok (.istore_n 2, 1) := by decide +kernel
theorem dX_compareWithKey_2 : decode cX_compareWithKey 2 = .ok (.iload_n 2, 1) := by decide +kernel
theorem dX_compareWithKey_3 : decode cX_compareWithKey 3 = .ok (.iconst 5, 1) := by decide +kernel
theorem dX_compareWithKey_4 : decode cX_compareWithKey 4 = .ok (.if_icmp .ge 52, 3) := by decide +kernel
theorem dX_compareWithKey_7 : decode cX_compareWithKey 7 = .ok (.aload_n 0, 1) := by decide +kernel
theorem dX_compareWithKey_8 : decode cX_compareWithKey 8 = .ok (.getfield 23, 3) := by decide +kernel
theorem dX_compareWithKey_11 : decode cX_compareWithKey 11 = .ok (.iload_n 1, 1) := by decide +kernel
theorem dX_compareWithKey_12 : decode cX_compareWithKey 12 = .ok (.iconst 5, 1) := by decide +kernel
theorem dX_compareWithKey_13 : decode cX_compareWithKey 13 = .ok (.imul, 1) := by decide +kernel
theorem dX_compareWithKey_14 : decode cX_compareWithKey 14 = .ok (.iload_n 2, 1) := by decide +kernel
theorem dX_compareWithKey_15 : decode cX_compareWithKey 15 = .ok (.iadd, 1) := by decide +kernel
theorem dX_compareWithKey_16 : decode cX_compareWithKey 16 = .ok (.iaload, 1) := by decide +kernel
theorem dX_compareWithKey_17 : decode cX_compareWithKey 17 = .ok (.istore_n 3, 1) := by decide +kernel
theorem dX_compareWithKey_18 : decode cX_compareWithKey 18 = .ok (.iload_n 3, 1) := by decide +kernel
theorem dX_compareWithKey_19 : decode cX_compareWithKey 19 = .ok (.aload_n 0, 1) := by decide +kernel
theorem dX_compareWithKey_20 : decode cX_compareWithKey 20 = .ok (.getfield 13, 3) := by decide +kernel
theorem dX_compareWithKey_23 : decode cX_compareWithKey 23 = .ok (.iload_n 2, 1) := by decide +kernel
theorem dX_compareWithKey_24 : decode cX_compareWithKey 24 = .ok (.iaload, 1) := by decide +kernel
theorem dX_compareWithKey_25 : decode cX_compareWithKey 25 = .ok (.if_icmp .eq 25, 3) := by decide +kernel
theorem dX_compareWithKey_28 : decode cX_compareWithKey 28 = .ok (.iload_n 3, 1) := by decide +kernel
theorem dX_compareWithKey_29 : decode cX_compareWithKey 29 = .ok (.ldc 125, 2) := by decide +kernel
theorem dX_compareWithKey_31 : decode cX_compareWithKey 31 = .ok (.ixor, 1) := by decide +kernel
theorem dX_compareWithKey_32 : decode cX_compareWithKey 32 = .ok (.aload_n 0, 1) := by decide +kernel
theorem dX_compareWithKey_33 : decode cX_compareWithKey 33 = .ok (.getfield 13, 3) := by decide +kernel
theorem dX_compareWithKey_36 : decode cX_compareWithKey 36 = .ok (.iload_n 2, 1) := by decide +kernel
theorem dX_compareWithKey_37 : decode cX_compareWithKey 37 = .ok (.iaload, 1) := by decide +kernel
theorem dX_compareWithKey_38 : decode cX_compareWithKey 38 = .ok (.ldc 125, 2) := by decide +kernel
theorem dX_compareWithKey_40 : decode cX_compareWithKey 40 = .ok (.ixor, 1) := by decide +kernel
theorem dX_compareWithKey_41 : decode cX_compareWithKey 41 = .ok (.if_icmp .ge 7, 3) := by decide +kernel
theorem dX_compareWithKey_44 : decode cX_compareWithKey 44 = .ok (.iconst (-1), 1) := by decide +kernel
theorem dX_compareWithKey_45 : decode cX_compareWithKey 45 = .ok (.goto 4, 3) := by decide +kernel
theorem dX_compareWithKey_48 : decode cX_compareWithKey 48 = .ok (.iconst 1, 1) := by decide +kernel
theorem dX_compareWithKey_49 : decode cX_compareWithKey 49 = .ok (.ireturn, 1) := by decide +kernel
theorem dX_compareWithKey_50 : decode cX_compareWithKey 50 = .ok (.iinc 2 1, 3) := by decide +kernel
theorem dX_compareWithKey_53 : decode cX_compareWithKey 53 = .ok (.goto (-51), 3) := by decide +kernel
theorem dX_compareWithKey_56 : decode cX_compareWithKey 56 = .ok (.iconst 0, 1) := by decide +kernel
theorem dX_compareWithKey_57 : decode cX_compareWithKey 57 = .ok (.ireturn, 1) := by decide +kernel
theorem dX_freeSlot_0 : decode cX_freeSlot 0 = .ok (.iload_n 1, 1) := by decide +kernel
theorem dX_freeSlot_1 : decode cX_freeSlot 1 = .ok (.bipush 48, 2) := by decide +kernel
theorem dX_freeSlot_3 : decode cX_freeSlot 3 = .ok (.imul, 1) := by decide +kernel
theorem dX_freeSlot_4 : decode cX_freeSlot 4 = .ok (.istore_n 2, 1) := by decide +kernel
theorem dX_freeSlot_5 : decode cX_freeSlot 5 = .ok (.iload_n 2, 1) := by decide +kernel
theorem dX_freeSlot_6 : decode cX_freeSlot 6 = .ok (.istore_n 3, 1) := by decide +kernel
theorem dX_freeSlot_7 : decode cX_freeSlot 7 = .ok (.iload_n 3, 1) := by decide +kernel
theorem dX_freeSlot_8 : decode cX_freeSlot 8 = .ok (.iload_n 2, 1) := by decide +kernel
theorem dX_freeSlot_9 : decode cX_freeSlot 9 = .ok (.bipush 48, 2) := by decide +kernel
theorem dX_freeSlot_11 : decode cX_freeSlot 11 = .ok (.iadd, 1) := by decide +kernel
theorem dX_freeSlot_12 : decode cX_freeSlot 12 = .ok (.if_icmp .ge 20, 3) := by decide +kernel
theorem dX_freeSlot_15 : decode cX_freeSlot 15 = .ok (.aload_n 0, 1) := by decide +kernel
theorem dX_freeSlot_16 : decode cX_freeSlot 16 = .ok (.getfield 26, 3) := by decide +kernel
theorem dX_freeSlot_19 : decode cX_freeSlot 19 = .ok (.iload_n 3, 1) := by decide +kernel
theorem dX_freeSlot_20 : decode cX_freeSlot 20 = .ok (.iaload, 1) := by decide +kernel
theorem dX_freeSlot_21 : decode cX_freeSlot 21 = .ok (.ifCond .ne 5, 3) := by decide +kernel
theorem dX_freeSlot_24 : decode cX_freeSlot 24 = .ok (.iload_n 3, 1) := by decide +kernel
theorem dX_freeSlot_25 : decode cX_freeSlot 25 = .ok (.ireturn, 1) := by decide +kernel
theorem dX_freeSlot_26 : decode cX_freeSlot 26 = .ok (.iinc 3 1, 3) := by decide +kernel
theorem dX_freeSlot_29 : decode cX_freeSlot 29 = .ok (.goto (-22), 3) := by decide +kernel
theorem dX_freeSlot_32 : decode cX_freeSlot 32 = .ok (.iconst (-1), 1) := by decide +kernel
theorem dX_freeSlot_33 : decode cX_freeSlot 33 = .ok (.ireturn, 1) := by decide +kernel
theorem dX_keepKey_0 : decode cX_keepKey 0 = .ok (.iconst 0, 1) := by decide +kernel
theorem dX_keepKey_1 : decode cX_keepKey 1 = .ok (.istore_n 3, 1) := by decide +kernel
theorem dX_keepKey_2 : decode cX_keepKey 2 = .ok (.iload_n 3, 1) := by decide +kernel
theorem dX_keepKey_3 : decode cX_keepKey 3 = .ok (.iconst 5, 1) := by decide +kernel
theorem dX_keepKey_4 : decode cX_keepKey 4 = .ok (.if_icmp .ge 25, 3) := by decide +kernel
theorem dX_keepKey_7 : decode cX_keepKey 7 = .ok (.aload_n 0, 1) := by decide +kernel
theorem dX_keepKey_8 : decode cX_keepKey 8 = .ok (.getfield 23, 3) := by decide +kernel
theorem dX_keepKey_11 : decode cX_keepKey 11 = .ok (.iload_n 1, 1) := by decide +kernel
theorem dX_keepKey_12 : decode cX_keepKey 12 = .ok (.iconst 5, 1) := by decide +kernel
theorem dX_keepKey_13 : decode cX_keepKey 13 = .ok (.imul, 1) := by decide +kernel
theorem dX_keepKey_14 : decode cX_keepKey 14 = .ok (.iload_n 3, 1) := by decide +kernel
theorem dX_keepKey_15 : decode cX_keepKey 15 = .ok (.iadd, 1) := by decide +kernel
theorem dX_keepKey_16 : decode cX_keepKey 16 = .ok (.aload_n 0, 1) := by decide +kernel
theorem dX_keepKey_17 : decode cX_keepKey 17 = .ok (.getfield 13, 3) := by decide +kernel
theorem dX_keepKey_20 : decode cX_keepKey 20 = .ok (.iload_n 3, 1) := by decide +kernel
theorem dX_keepKey_21 : decode cX_keepKey 21 = .ok (.iaload, 1) := by decide +kernel
theorem dX_keepKey_22 : decode cX_keepKey 22 = .ok (.iastore, 1) := by decide +kernel
theorem dX_keepKey_23 : decode cX_keepKey 23 = .ok (.iinc 3 1, 3) := by decide +kernel
theorem dX_keepKey_26 : decode cX_keepKey 26 = .ok (.goto (-24), 3) := by decide +kernel
theorem dX_keepKey_29 : decode cX_keepKey 29 = .ok (.aload_n 0, 1) := by decide +kernel
theorem dX_keepKey_30 : decode cX_keepKey 30 = .ok (.getfield 26, 3) := by decide +kernel
theorem dX_keepKey_33 : decode cX_keepKey 33 = .ok (.iload_n 1, 1) := by decide +kernel
theorem dX_keepKey_34 : decode cX_keepKey 34 = .ok (.iload_n 2, 1) := by decide +kernel
theorem dX_keepKey_35 : decode cX_keepKey 35 = .ok (.iastore, 1) := by decide +kernel
theorem dX_keepKey_36 : decode cX_keepKey 36 = .ok (.return_, 1) := by decide +kernel
theorem dX_link_0 : decode cX_link 0 = .ok (.aload_n 0, 1) := by decide +kernel
theorem dX_link_1 : decode cX_link 1 = .ok (.aload_n 1, 1) := by decide +kernel
theorem dX_link_2 : decode cX_link 2 = .ok (.iload_n 2, 1) := by decide +kernel
theorem dX_link_3 : decode cX_link 3 = .ok (.invokevirtual 119, 3) := by decide +kernel
theorem dX_link_6 : decode cX_link 6 = .ok (.istore 4, 2) := by decide +kernel
theorem dX_link_8 : decode cX_link 8 = .ok (.aload_n 1, 1) := by decide +kernel
theorem dX_link_9 : decode cX_link 9 = .ok (.iload_n 3, 1) := by decide +kernel
theorem dX_link_10 : decode cX_link 10 = .ok (.aload_n 1, 1) := by decide +kernel
theorem dX_link_11 : decode cX_link 11 = .ok (.iload 4, 2) := by decide +kernel
theorem dX_link_13 : decode cX_link 13 = .ok (.iaload, 1) := by decide +kernel
theorem dX_link_14 : decode cX_link 14 = .ok (.iastore, 1) := by decide +kernel
theorem dX_link_15 : decode cX_link 15 = .ok (.aload_n 1, 1) := by decide +kernel
theorem dX_link_16 : decode cX_link 16 = .ok (.iload 4, 2) := by decide +kernel
theorem dX_link_18 : decode cX_link 18 = .ok (.iload_n 3, 1) := by decide +kernel
theorem dX_link_19 : decode cX_link 19 = .ok (.iastore, 1) := by decide +kernel
theorem dX_link_20 : decode cX_link 20 = .ok (.return_, 1) := by decide +kernel
theorem dX_unlinkKey_0 : decode cX_unlinkKey 0 = .ok (.aload_n 0, 1) := by decide +kernel
theorem dX_unlinkKey_1 : decode cX_unlinkKey 1 = .ok (.aload_n 1, 1) := by decide +kernel
theorem dX_unlinkKey_2 : decode cX_unlinkKey 2 = .ok (.iload_n 2, 1) := by decide +kernel
theorem dX_unlinkKey_3 : decode cX_unlinkKey 3 = .ok (.invokevirtual 119, 3) := by decide +kernel
theorem dX_unlinkKey_6 : decode cX_unlinkKey 6 = .ok (.istore_n 3, 1) := by decide +kernel
theorem dX_unlinkKey_7 : decode cX_unlinkKey 7 = .ok (.aload_n 1, 1) := by decide +kernel
theorem dX_unlinkKey_8 : decode cX_unlinkKey 8 = .ok (.iload_n 3, 1) := by decide +kernel
theorem dX_unlinkKey_9 : decode cX_unlinkKey 9 = .ok (.iaload, 1) := by decide +kernel
theorem dX_unlinkKey_10 : decode cX_unlinkKey 10 = .ok (.istore 4, 2) := by decide +kernel
theorem dX_unlinkKey_12 : decode cX_unlinkKey 12 = .ok (.iload 4, 2) := by decide +kernel
theorem dX_unlinkKey_14 : decode cX_unlinkKey 14 = .ok (.invokestatic 55, 3) := by decide +kernel
theorem dX_unlinkKey_17 : decode cX_unlinkKey 17 = .ok (.ifCond .eq 10, 3) := by decide +kernel
theorem dX_unlinkKey_20 : decode cX_unlinkKey 20 = .ok (.aload_n 1, 1) := by decide +kernel
theorem dX_unlinkKey_21 : decode cX_unlinkKey 21 = .ok (.iload_n 3, 1) := by decide +kernel
theorem dX_unlinkKey_22 : decode cX_unlinkKey 22 = .ok (.aload_n 1, 1) := by decide +kernel
theorem dX_unlinkKey_23 : decode cX_unlinkKey 23 = .ok (.iload 4, 2) := by decide +kernel
theorem dX_unlinkKey_25 : decode cX_unlinkKey 25 = .ok (.iaload, 1) := by decide +kernel
theorem dX_unlinkKey_26 : decode cX_unlinkKey 26 = .ok (.iastore, 1) := by decide +kernel
theorem dX_unlinkKey_27 : decode cX_unlinkKey 27 = .ok (.return_, 1) := by decide +kernel
theorem dX_slotInOrder_0 : decode cX_slotInOrder 0 = .ok (.iload_n 2, 1) := by decide +kernel
theorem dX_slotInOrder_1 : decode cX_slotInOrder 1 = .ok (.aload_n 0, 1) := by decide +kernel
theorem dX_slotInOrder_2 : decode cX_slotInOrder 2 = .ok (.getfield 32, 3) := by decide +kernel
theorem dX_slotInOrder_5 : decode cX_slotInOrder 5 = .ok (.iload_n 1, 1) := by decide +kernel
theorem dX_slotInOrder_6 : decode cX_slotInOrder 6 = .ok (.iaload, 1) := by decide +kernel
theorem dX_slotInOrder_7 : decode cX_slotInOrder 7 = .ok (.if_icmp .lt 5, 3) := by decide +kernel
theorem dX_slotInOrder_10 : decode cX_slotInOrder 10 = .ok (.iconst (-1), 1) := by decide +kernel
theorem dX_slotInOrder_11 : decode cX_slotInOrder 11 = .ok (.ireturn, 1) := by decide +kernel
theorem dX_slotInOrder_12 : decode cX_slotInOrder 12 = .ok (.aload_n 0, 1) := by decide +kernel
theorem dX_slotInOrder_13 : decode cX_slotInOrder 13 = .ok (.getfield 38, 3) := by decide +kernel
theorem dX_slotInOrder_16 : decode cX_slotInOrder 16 = .ok (.iload_n 1, 1) := by decide +kernel
theorem dX_slotInOrder_17 : decode cX_slotInOrder 17 = .ok (.invokestatic 82, 3) := by decide +kernel
theorem dX_slotInOrder_20 : decode cX_slotInOrder 20 = .ok (.iaload, 1) := by decide +kernel
theorem dX_slotInOrder_21 : decode cX_slotInOrder 21 = .ok (.istore_n 3, 1) := by decide +kernel
theorem dX_slotInOrder_22 : decode cX_slotInOrder 22 = .ok (.iconst 0, 1) := by decide +kernel
theorem dX_slotInOrder_23 : decode cX_slotInOrder 23 = .ok (.istore 4, 2) := by decide +kernel
theorem dX_slotInOrder_25 : decode cX_slotInOrder 25 = .ok (.iload 4, 2) := by decide +kernel
theorem dX_slotInOrder_27 : decode cX_slotInOrder 27 = .ok (.iload_n 2, 1) := by decide +kernel
theorem dX_slotInOrder_28 : decode cX_slotInOrder 28 = .ok (.if_icmp .ge 23, 3) := by decide +kernel
theorem dX_slotInOrder_31 : decode cX_slotInOrder 31 = .ok (.iload_n 3, 1) := by decide +kernel
theorem dX_slotInOrder_32 : decode cX_slotInOrder 32 = .ok (.invokestatic 55, 3) := by decide +kernel
theorem dX_slotInOrder_35 : decode cX_slotInOrder 35 = .ok (.ifCond .eq 16, 3) := by decide +kernel
theorem dX_slotInOrder_38 : decode cX_slotInOrder 38 = .ok (.aload_n 0, 1) := by decide +kernel
theorem dX_slotInOrder_39 : decode cX_slotInOrder 39 = .ok (.getfield 38, 3) := by decide +kernel
theorem dX_slotInOrder_42 : decode cX_slotInOrder 42 = .ok (.iload_n 3, 1) := by decide +kernel
theorem dX_slotInOrder_43 : decode cX_slotInOrder 43 = .ok (.iaload, 1) := by decide +kernel
theorem dX_slotInOrder_44 : decode cX_slotInOrder 44 = .ok (.istore_n 3, 1) := by decide +kernel
theorem dX_slotInOrder_45 : decode cX_slotInOrder 45 = .ok (.iinc 4 1, 3) := by decide +kernel
theorem dX_slotInOrder_48 : decode cX_slotInOrder 48 = .ok (.goto (-23), 3) := by decide +kernel
theorem dX_slotInOrder_51 : decode cX_slotInOrder 51 = .ok (.iload_n 3, 1) := by decide +kernel
theorem dX_slotInOrder_52 : decode cX_slotInOrder 52 = .ok (.ireturn, 1) := by decide +kernel
